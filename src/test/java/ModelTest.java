/**
 * Long made-up runs of calls, each answer compared with PlainSort's. No object gets more than 512 calls, because
 * nothing is promised about what it answers then.
 */
public final class ModelTest {
    private static final int CALLS = 512;
    private static final int OBJECTS = 4000;
    // The longest change() takes fewer calls than the last ones, which only look.
    private static final int MOST_CHANGES = 390;

    private static final Checks checks = new Checks();

    // The same numbers in each run of the test, so that a failure can be seen again.
    private long seed;
    private final int maxKey;
    private final int mostAdds;
    private final int usualMemory;
    private final GrantedSort x = new GrantedSort();
    private final PlainSort y = new PlainSort();
    private int calls;

    private ModelTest(int object) {
        seed = object * 7919L + 17;
        below(2);
        int[] keys = {3, 12, 60, 999};
        maxKey = keys[below(keys.length)];
        mostAdds = 5 + below(90);
        usualMemory = 2 + below(10);
    }

    public static void main(String[] args) {
        for (int object = 0; object < OBJECTS; object++) {
            checks.begin("object " + object);
            new ModelTest(object).play();
        }
        for (int object = 0; object < OBJECTS / 100; object++) {
            checks.begin("many runs, object " + object);
            new ModelTest(object).manyRuns(object % 2 == 1);
        }
        everyShortText();
        checks.end();
    }

    private int below(int bound) {
        seed = seed * 6364136223846793005L + 1442695040888963407L;
        return (int) ((seed >>> 33) % bound);
    }

    private void play() {
        int busy = 20 + below(MOST_CHANGES - 20);
        while (calls < busy) {
            change();
            for (int looks = below(3); looks > 0; looks--) {
                look();
            }
        }
        checks.holds("changes leave calls to look", calls < CALLS);
        lookAtAll();
        while (calls < CALLS) {
            look();
        }
        checks.same("calls", calls, CALLS);
    }

    private void change() {
        if (y.isCollecting() == 1 && calls < mostAdds * 2) {
            fill();
        } else if (y.isDone() == 1) {
            goBack();
        } else {
            mergeOn();
        }
    }

    private void same(String what, int got, int due) {
        calls++;
        checks.same("call " + calls + ", " + what + ",", got, due);
    }

    private void fill() {
        int kind = below(40);
        if (calls < 3 && kind < 20) {
            boolean on = below(2) == 1;
            same("combine", x.combine(on), y.combine(on));
        } else if (kind < 24) {
            int key = below(maxKey + 1);
            same("add " + key, x.add(key), y.add(key));
        } else if (kind < 28) {
            same("flush", x.flush(), y.flush());
        } else if (kind < 31) {
            int size = 2 + below(kind == 28 ? 19 : usualMemory);
            same("grant " + size, x.grant(size), y.grant(size));
        } else if (kind < 34) {
            typeAndRead();
        } else {
            anything();
        }
    }

    private void mergeOn() {
        int kind = below(40);
        if (kind < 12) {
            same("merge", x.merge(), y.merge());
        } else if (kind < 24) {
            int steps = 1 + below(kind == 12 ? 200 : 9);
            same("step " + steps, x.step(steps), y.step(steps));
        } else if (kind < 31) {
            int size = 2 + below(kind < 27 ? 19 : usualMemory);
            same("grant " + size, x.grant(size), y.grant(size));
        } else if (kind == 31 && below(3) == 0) {
            same("run", x.run(), y.run());
        } else if (kind == 32) {
            same("finish", x.finish(), y.finish());
        } else {
            anything();
        }
    }

    private void goBack() {
        int kind = below(4);
        if (kind == 0) {
            same("restore", x.restore(), y.restore());
        } else if (kind < 3) {
            same("undo", x.undo(), y.undo());
        } else {
            anything();
        }
    }

    private void anything() {
        int wild = wildNumber();
        switch (below(28)) {
            case 0: same("add " + wild, x.add(wild), y.add(wild)); break;
            case 1: same("combine", x.combine(wild > 0), y.combine(wild > 0)); break;
            case 2: same("flush", x.flush(), y.flush()); break;
            case 3: same("grant " + wild, x.grant(wild), y.grant(wild)); break;
            case 4: same("memory " + wild, x.memory(wild), y.memory(wild)); break;
            case 5: same("inMemory " + wild, x.inMemory(wild), y.inMemory(wild)); break;
            case 6: same("merge", x.merge(), y.merge()); break;
            case 7: same("step " + wild, x.step(wild), y.step(wild)); break;
            case 8: same("ofMerge " + wild, x.ofMerge(wild), y.ofMerge(wild)); break;
            case 9: same("runAt " + wild, x.runAt(wild), y.runAt(wild)); break;
            case 10: same("size " + wild, x.size(wild), y.size(wild)); break;
            case 11: compareRow(wild, wildNumber(), wildNumber()); break;
            case 12: same("count " + wild, x.count(wild), y.count(wild)); break;
            case 13: same("rank " + wild, x.rank(wild), y.rank(wild)); break;
            case 14: same("costsWith " + wild, x.costsWith(wild), y.costsWith(wild)); break;
            case 15: same("mergesWith " + wild, x.mergesWith(wild), y.mergesWith(wild)); break;
            case 16: same("append " + wild, x.append(wild), y.append(wild)); break;
            case 17: same("clearText", x.clearText(), y.clearText()); break;
            case 18: same("errorPosition", x.errorPosition(), y.errorPosition()); break;
            case 19: same("read", x.read(), y.read()); break;
            case 20: case 21: same("undo", x.undo(), y.undo()); break;
            case 22: case 23: same("save", x.save(), y.save()); break;
            case 24: same("restore", x.restore(), y.restore()); break;
            case 25: same("bestSize", x.bestSize(), y.bestSize()); break;
            case 26: typeAndRead(); break;
            default: compareLast(); break;
        }
    }

    private void compareRow(int run, int index, int part) {
        same("row " + run + " " + index + " " + part, x.row(run, index, part), y.row(run, index, part));
    }

    private void compareLast() {
        int run = y.runAt(y.runs() - 1);
        for (int index = -1; index <= y.size(run); index++) {
            compareRow(run, index, below(5) - 1);
        }
    }

    private int wildNumber() {
        switch (below(10)) {
            case 0: return -1 - below(3);
            case 1: return below(2) == 0 ? Integer.MIN_VALUE : Integer.MAX_VALUE;
            case 2: return below(300);
            case 3: return 990 + below(20);
            case 4: return 33 + below(95);
            case 5: return below(22);
            default: return below(8);
        }
    }

    private void typeAndRead() {
        same("clearText", x.clearText(), y.clearText());
        int signs = 1 + below(24);
        for (int i = 0; i < signs; i++) {
            append("0123456789,,,x-1251".charAt(below(19)));
        }
        same("errorPosition", x.errorPosition(), y.errorPosition());
        // Most such texts are none, so what is behind the first error is left out.
        for (int tries = 0; tries < 3 && y.errorPosition() >= 0; tries++) {
            retype(y.errorPosition() - tries);
        }
        same("read", x.read(), y.read());
    }

    private void append(int code) {
        same("append " + code, x.append(code), y.append(code));
    }

    private void retype(int length) {
        String signs = "4x3,7-9,12,8x2,20-25,3,3,5x4";
        same("clearText", x.clearText(), y.clearText());
        for (int i = 0; i < Math.max(0, Math.min(length, signs.length())); i++) {
            append(signs.charAt(i));
        }
        same("errorPosition", x.errorPosition(), y.errorPosition());
    }

    /** One call that changes nothing, with arguments that are mostly in range. */
    private void look() {
        int number = below(9) - 1;
        int size = 1 + below(21);
        int key = below(maxKey + 2);
        switch (below(16)) {
            case 0: same("isCollecting", x.isCollecting(), y.isCollecting()); break;
            case 1: same("isMerging", x.isMerging(), y.isMerging()); break;
            case 2: same("isDone", x.isDone(), y.isDone()); break;
            case 3: same("runs", x.runs(), y.runs()); break;
            case 4: same("memory " + number, x.memory(number), y.memory(number)); break;
            case 5: same("inMemory " + size, x.inMemory(size - 1), y.inMemory(size - 1)); break;
            case 6: same("ofMerge " + number, x.ofMerge(number), y.ofMerge(number)); break;
            case 7: same("count " + number, x.count(number), y.count(number)); break;
            case 8: same("rank " + key, x.rank(key), y.rank(key)); break;
            case 9: same("costsWith " + size, x.costsWith(size), y.costsWith(size)); break;
            case 10: same("mergesWith " + size, x.mergesWith(size), y.mergesWith(size)); break;
            case 11: same("bestSize", x.bestSize(), y.bestSize()); break;
            case 12: same("errorPosition", x.errorPosition(), y.errorPosition()); break;
            default: lookAtRun(below(y.runs() + 2) - 1); break;
        }
    }

    private void lookAtRun(int index) {
        int run = y.runAt(index);
        int row = below(Math.max(0, y.size(run)) + 2) - 1;
        switch (below(4)) {
            case 0: same("runAt " + index, x.runAt(index), run); break;
            case 1: same("size " + run, x.size(run), y.size(run)); break;
            default: compareRow(run, row, below(8) == 0 ? below(5) - 1 : below(3)); break;
        }
    }

    /** As much of the state as there are calls left for. */
    private void lookAtAll() {
        for (int i = 0; i < 21 && calls < CALLS; i++) {
            same("inMemory " + i, x.inMemory(i), y.inMemory(i));
        }
        for (int i = 0; i <= 6 && calls < CALLS; i++) {
            same("count " + i, x.count(i), y.count(i));
        }
        int runs = y.runs();
        int first = below(runs + 1);
        for (int i = 0; i < runs && calls < CALLS; i++) {
            int run = y.runAt((first + i) % runs);
            same("size " + run, x.size(run), y.size(run));
            for (int row = 0; row < y.size(run) && calls < CALLS; row++) {
                compareRow(run, row, below(3));
            }
        }
    }

    /** As many runs as there can be rows, merged and cut short. */
    private void manyRuns(boolean isCombining) {
        same("combine", x.combine(isCombining), y.combine(isCombining));
        for (int row = 0; row < 120; row++) {
            int key = below(40);
            same("add " + key, x.add(key), y.add(key));
            same("flush", x.flush(), y.flush());
        }
        same("finish", x.finish(), y.finish());
        for (int size = 2; size <= 20; size++) {
            int steps = 1 + below(size);
            same("grant " + size, x.grant(size), y.grant(size));
            same("merge", x.merge(), y.merge());
            same("step " + steps, x.step(steps), y.step(steps));
            look();
            same("grant 2", x.grant(2), y.grant(2));
            look();
        }
        int size = 3 + below(9);
        same("grant " + size, x.grant(size), y.grant(size));
        same("run", x.run(), y.run());
        lookAtAll();
        while (calls < CALLS) {
            look();
        }
    }

    /** All texts of up to five of these signs: each number's first and last digits are among them. */
    private static void everyShortText() {
        checks.begin("short texts");
        String signs = "0129x-,";
        int texts = 1;
        for (int length = 0; length <= 5; length++) {
            for (int t = 0; t < texts; t++) {
                compareText(signs, t, length);
            }
            texts *= signs.length();
        }
    }

    private static void compareText(String signs, int index, int length) {
        GrantedSort x = new GrantedSort();
        PlainSort y = new PlainSort();
        int rest = index;
        for (int i = 0; i < length; i++) {
            int code = signs.charAt(rest % signs.length());
            rest /= signs.length();
            x.append(code);
            y.append(code);
        }
        checks.same("errorPosition of text " + index + " of length " + length, x.errorPosition(), y.errorPosition());
        checks.same("read of text " + index + " of length " + length, x.read(), y.read());
    }
}
