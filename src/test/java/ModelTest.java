/** Long made-up runs of calls, each answer compared with PlainSort's. */
public final class ModelTest {
    private static final int CALLS = 512;
    private static final int OBJECTS = 400;
    private static final int WATCHED = 8;

    private static final Checks checks = new Checks();

    // The same numbers in each run of the test, so that a failure can be seen again.
    private long seed;
    private final int maxKey;
    private final int mostAdds;
    private final int usualMemory;
    private final GrantedSort x = new GrantedSort();
    private final PlainSort y = new PlainSort();

    private ModelTest(int object) {
        seed = object * 7919L + 17;
        below(2);
        int[] keys = {3, 12, 60, 999};
        maxKey = keys[below(keys.length)];
        mostAdds = 5 + below(90);
        usualMemory = 2 + below(10);
    }

    public static void main(String[] args) {
        for (int object = 0; object < OBJECTS; object++) {
            checks.begin("object " + object);
            new ModelTest(object).play(object < WATCHED);
        }
        manyRuns(false);
        manyRuns(true);
        everyShortText();
        checks.end();
    }

    private int below(int bound) {
        seed = seed * 6364136223846793005L + 1442695040888963407L;
        return (int) ((seed >>> 33) % bound);
    }

    private void play(boolean isWatched) {
        for (int call = 0; call < CALLS; call++) {
            if (call % 64 == 0) {
                compareAll();
            }
            if (x.isCollecting() == 1 && call < mostAdds * 2) {
                fill(call);
            } else if (x.isDone() == 1) {
                goBack(call);
            } else {
                mergeOn(call);
            }
            if (isWatched) {
                compareAll();
            }
        }
        compareAll();
    }

    private void same(int call, String what, int got, int due) {
        checks.same("call " + call + " " + what, got, due);
    }

    private void fill(int call) {
        int kind = below(40);
        if (call < 3 && kind < 20) {
            boolean on = below(2) == 1;
            same(call, "combine", x.combine(on), y.combine(on));
        } else if (kind < 24) {
            int key = below(maxKey + 1);
            same(call, "add " + key, x.add(key), y.add(key));
        } else if (kind < 28) {
            same(call, "flush", x.flush(), y.flush());
        } else if (kind < 31) {
            int size = 2 + below(kind == 28 ? 19 : usualMemory);
            same(call, "grant " + size, x.grant(size), y.grant(size));
        } else if (kind < 34) {
            typeAndRead(call);
        } else {
            anything(call);
        }
    }

    private void mergeOn(int call) {
        int kind = below(40);
        if (kind < 12) {
            same(call, "merge", x.merge(), y.merge());
        } else if (kind < 24) {
            int steps = 1 + below(kind == 12 ? 200 : 9);
            same(call, "step " + steps, x.step(steps), y.step(steps));
        } else if (kind < 31) {
            int size = 2 + below(kind < 27 ? 19 : usualMemory);
            same(call, "grant " + size, x.grant(size), y.grant(size));
        } else if (kind == 31 && below(3) == 0) {
            same(call, "run", x.run(), y.run());
        } else if (kind == 32) {
            same(call, "finish", x.finish(), y.finish());
        } else {
            anything(call);
        }
    }

    private void goBack(int call) {
        int kind = below(4);
        if (kind == 0) {
            same(call, "restore", x.restore(), y.restore());
        } else if (kind < 3) {
            same(call, "undo", x.undo(), y.undo());
        } else {
            anything(call);
        }
    }

    private void anything(int call) {
        int wild = wildNumber();
        switch (below(28)) {
            case 0: same(call, "add " + wild, x.add(wild), y.add(wild)); break;
            case 1: same(call, "combine", x.combine(wild > 0), y.combine(wild > 0)); break;
            case 2: same(call, "flush", x.flush(), y.flush()); break;
            case 3: same(call, "grant " + wild, x.grant(wild), y.grant(wild)); break;
            case 4: same(call, "memory " + wild, x.memory(wild), y.memory(wild)); break;
            case 5: same(call, "inMemory " + wild, x.inMemory(wild), y.inMemory(wild)); break;
            case 6: same(call, "merge", x.merge(), y.merge()); break;
            case 7: same(call, "step " + wild, x.step(wild), y.step(wild)); break;
            case 8: same(call, "ofMerge " + wild, x.ofMerge(wild), y.ofMerge(wild)); break;
            case 9: same(call, "runAt " + wild, x.runAt(wild), y.runAt(wild)); break;
            case 10: same(call, "size " + wild, x.size(wild), y.size(wild)); break;
            case 11: compareRow(call, wild, wildNumber(), wildNumber()); break;
            case 12: same(call, "count " + wild, x.count(wild), y.count(wild)); break;
            case 13: same(call, "rank " + wild, x.rank(wild), y.rank(wild)); break;
            case 14: same(call, "costsWith " + wild, x.costsWith(wild), y.costsWith(wild)); break;
            case 15: same(call, "mergesWith " + wild, x.mergesWith(wild), y.mergesWith(wild)); break;
            case 16: same(call, "append " + wild, x.append(wild), y.append(wild)); break;
            case 17: same(call, "clearText", x.clearText(), y.clearText()); break;
            case 18: same(call, "errorPosition", x.errorPosition(), y.errorPosition()); break;
            case 19: same(call, "read", x.read(), y.read()); break;
            case 20: case 21: same(call, "undo", x.undo(), y.undo()); break;
            case 22: case 23: same(call, "save", x.save(), y.save()); break;
            case 24: same(call, "restore", x.restore(), y.restore()); break;
            case 25: same(call, "bestSize", x.bestSize(), y.bestSize()); break;
            case 26: typeAndRead(call); break;
            default: compareLast(call); break;
        }
    }

    private void compareRow(int call, int run, int index, int part) {
        same(call, "row " + run + " " + index + " " + part, x.row(run, index, part), y.row(run, index, part));
    }

    private void compareLast(int call) {
        int run = y.runAt(y.runs() - 1);
        for (int index = -1; index <= y.size(run); index++) {
            compareRow(call, run, index, below(5) - 1);
        }
    }

    private int wildNumber() {
        switch (below(10)) {
            case 0: return -1 - below(3);
            case 1: return below(2) == 0 ? Integer.MIN_VALUE : Integer.MAX_VALUE;
            case 2: return below(300);
            case 3: return 990 + below(20);
            case 4: return 33 + below(95);
            case 5: return below(22);
            default: return below(8);
        }
    }

    private void typeAndRead(int call) {
        same(call, "clearText", x.clearText(), y.clearText());
        int signs = 1 + below(24);
        for (int i = 0; i < signs; i++) {
            int code = "0123456789,,,x-1251".charAt(below(19));
            same(call, "append", x.append(code), y.append(code));
        }
        same(call, "errorPosition", x.errorPosition(), y.errorPosition());
        // Most such texts are none, so what is behind the first error is left out.
        for (int tries = 0; tries < 3 && y.errorPosition() >= 0; tries++) {
            retype(call, y.errorPosition() - tries);
        }
        same(call, "read", x.read(), y.read());
    }

    private final StringBuilder typed = new StringBuilder();

    private void retype(int call, int length) {
        typed.setLength(0);
        String signs = "4x3,7-9,12,8x2,20-25,3,3,5x4";
        typed.append(signs, 0, Math.max(0, Math.min(length, signs.length())));
        x.clearText();
        y.clearText();
        for (int i = 0; i < typed.length(); i++) {
            same(call, "append", x.append(typed.charAt(i)), y.append(typed.charAt(i)));
        }
        same(call, "errorPosition", x.errorPosition(), y.errorPosition());
    }

    private void compareAll() {
        same(0, "isCollecting", x.isCollecting(), y.isCollecting());
        same(0, "isMerging", x.isMerging(), y.isMerging());
        same(0, "isDone", x.isDone(), y.isDone());
        same(0, "runs", x.runs(), y.runs());
        for (int i = -1; i <= 7; i++) {
            same(0, "memory", x.memory(i), y.memory(i));
            same(0, "ofMerge", x.ofMerge(i), y.ofMerge(i));
            same(0, "count", x.count(i), y.count(i));
        }
        for (int i = -1; i <= 21; i++) {
            same(0, "inMemory", x.inMemory(i), y.inMemory(i));
            same(0, "costsWith", x.costsWith(i), y.costsWith(i));
            same(0, "mergesWith", x.mergesWith(i), y.mergesWith(i));
        }
        same(0, "bestSize", x.bestSize(), y.bestSize());
        for (int key = -1; key <= 1000; key += 1 + below(90)) {
            same(0, "rank", x.rank(key), y.rank(key));
        }
        for (int i = -1; i <= y.runs(); i++) {
            int run = y.runAt(i);
            same(0, "runAt", x.runAt(i), run);
            same(0, "size", x.size(run), y.size(run));
            for (int index = -1; index <= y.size(run); index++) {
                for (int part = -1; part <= 3; part++) {
                    compareRow(0, run, index, part);
                }
            }
        }
    }

    /** As many runs as there can be rows, merged and cut short. */
    private static void manyRuns(boolean isCombining) {
        checks.begin("many runs, combining: " + isCombining);
        ModelTest m = new ModelTest(isCombining ? 1 : 0);
        m.same(0, "combine", m.x.combine(isCombining), m.y.combine(isCombining));
        for (int row = 0; row < 120; row++) {
            int key = m.below(40);
            m.same(row, "add", m.x.add(key), m.y.add(key));
            m.same(row, "flush", m.x.flush(), m.y.flush());
        }
        m.same(0, "finish", m.x.finish(), m.y.finish());
        for (int size = 2; size <= 20; size++) {
            m.same(0, "grant", m.x.grant(size), m.y.grant(size));
            m.same(0, "merge", m.x.merge(), m.y.merge());
            m.same(0, "step", m.x.step(size / 2), m.y.step(size / 2));
            m.compareAll();
            m.same(0, "grant", m.x.grant(2), m.y.grant(2));
            m.compareAll();
        }
        m.same(0, "grant", m.x.grant(5), m.y.grant(5));
        m.same(0, "run", m.x.run(), m.y.run());
        m.compareAll();
    }

    /** All texts of up to five of these signs: each number's first and last digits are among them. */
    private static void everyShortText() {
        checks.begin("short texts");
        String signs = "0129x-,";
        int texts = 1;
        for (int length = 0; length <= 5; length++) {
            for (int t = 0; t < texts; t++) {
                compareText(signs, t, length);
            }
            texts *= signs.length();
        }
    }

    private static void compareText(String signs, int index, int length) {
        GrantedSort x = new GrantedSort();
        PlainSort y = new PlainSort();
        int rest = index;
        for (int i = 0; i < length; i++) {
            int code = signs.charAt(rest % signs.length());
            rest /= signs.length();
            x.append(code);
            y.append(code);
        }
        checks.same("errorPosition of text " + index + " of length " + length, x.errorPosition(), y.errorPosition());
        checks.same("read of text " + index + " of length " + length, x.read(), y.read());
    }
}
