/** For each promise of the document: ordinary inputs, the edges that it names, and wrong inputs. */
public final class PromiseTest {
    private static final int NO_SUCH = -1;
    private static final int BAD_VALUE = -2;
    private static final int NOT_POSSIBLE = -3;
    private static final int LIMIT = -4;
    private static final int BAD_TEXT = -5;
    private static final int NONE = -6;

    private static final Checks checks = new Checks();

    public static void main(String[] args) {
        constants();
        promise1();
        promise2();
        promise2Combining();
        promise3();
        promise4();
        promise5();
        promise6();
        promise7Collecting();
        promise7Merging();
        promise7Combining();
        promise8();
        promise9();
        promise10();
        promise11();
        promise11Combining();
        promise12();
        promise12NotPossible();
        promise12ManyRuns();
        promise13And14();
        promise15();
        promise16And17();
        promise18();
        promise19();
        promise20();
        promise21();
        promise22And23();
        promise22WhileMerging();
        promise24();
        promise25And26();
        promise27();
        promise28();
        promise28Refused();
        promise29();
        promise29WhatIsUndoable();
        promise29AnotherPast();
        promise30And31();
        checks.end();
    }

    private static void due(String what, long got, long due) {
        checks.same(what, got, due);
    }

    private static void constants() {
        checks.begin("constants");
        due("NO_SUCH", GrantedSort.NO_SUCH, NO_SUCH);
        due("BAD_VALUE", GrantedSort.BAD_VALUE, BAD_VALUE);
        due("NOT_POSSIBLE", GrantedSort.NOT_POSSIBLE, NOT_POSSIBLE);
        due("LIMIT", GrantedSort.LIMIT, LIMIT);
        due("BAD_TEXT", GrantedSort.BAD_TEXT, BAD_TEXT);
        due("NONE", GrantedSort.NONE, NONE);
    }

    private static void promise1() {
        checks.begin("promise 1");
        GrantedSort x = new GrantedSort();
        due("isCollecting", x.isCollecting(), 1);
        due("memory(0)", x.memory(0), 6);
        due("memory(1)", x.memory(1), 0);
        due("runs", x.runs(), 0);
        due("isDone", x.isDone(), 0);
        due("isMerging", x.isMerging(), 0);
        for (int what = 0; what <= 6; what++) {
            due("count", x.count(what), 0);
        }
        due("undo", x.undo(), NOT_POSSIBLE);
        due("restore", x.restore(), NOT_POSSIBLE);
        due("clearText", x.clearText(), 0);
        due("combine", x.combine(false), 0);
    }

    private static void promise2() {
        checks.begin("promise 2");
        GrantedSort x = new GrantedSort();
        due("add(-1)", x.add(-1), BAD_VALUE);
        due("add(1000)", x.add(1000), BAD_VALUE);
        due("add(0)", x.add(0), 0);
        due("add(999)", x.add(999), 1);
        due("add an equal key", x.add(999), 2);
        for (int i = 3; i < 6; i++) {
            due("add", x.add(i), i);
        }
        due("nothing written while the memory is just full", x.runs(), 0);
        due("add to the full memory", x.add(500), 6);
        due("a run is written", x.runs(), 1);
        due("the row is in memory", x.inMemory(0), 500);
        checks.same("the run", Sorts.run(x, 0), "0#0*1 3#3*1 4#4*1 5#5*1 999#1*1 999#2*1");
        for (int i = 7; i < 120; i++) {
            due("add", x.add(i), i);
        }
        due("a 121st row", x.add(1), LIMIT);
        due("BAD_VALUE goes ahead of LIMIT", x.add(1000), BAD_VALUE);
        x.finish();
        due("NOT_POSSIBLE goes ahead of LIMIT", x.add(1), NOT_POSSIBLE);
        due("BAD_VALUE goes ahead of NOT_POSSIBLE", x.add(-1), BAD_VALUE);
        due("rows added", x.count(0), 120);
    }

    private static void promise2Combining() {
        checks.begin("promise 2, combining");
        GrantedSort x = Sorts.withKeys(3, true, 5, 3, 5, 9);
        due("rows in memory", x.memory(1), 3);
        due("an equal key with a full memory", x.add(3), 4);
        due("nothing written", x.runs(), 0);
        due("another key", x.add(7), 5);
        due("written", x.runs(), 1);
        checks.same("the run", Sorts.run(x, 0), "3#1*2 5#0*2 9#3*1");
        due("equal to a row that was written", x.add(5), 6);
        due("rows in memory", x.memory(1), 2);
        due("rows", x.count(1), 5);
        due("counts", x.count(2), 7);
        due("added", x.count(0), 7);
        GrantedSort y = Sorts.withKeys(3, true, 1, 2, 3);
        for (int i = 3; i < 120; i++) {
            due("combined", y.add(2), i);
        }
        due("combined rows count against the limit", y.add(2), LIMIT);
    }

    private static void promise3() {
        checks.begin("promise 3");
        GrantedSort x = new GrantedSort();
        due("on", x.combine(true), 0);
        due("on again", x.combine(true), 1);
        due("off", x.combine(false), 1);
        due("off again", x.combine(false), 0);
        due("undo", x.undo(), 3);
        due("undo", x.undo(), 2);
        due("it is on again", x.combine(true), 1);
        x.add(4);
        due("behind add", x.combine(false), NOT_POSSIBLE);
        x.add(4);
        due("still combining", x.memory(1), 1);
        x.undo();
        x.undo();
        due("no row was added then", x.combine(false), 1);
        GrantedSort y = new GrantedSort();
        y.finish();
        due("without rows behind finish", y.combine(true), 0);
        GrantedSort z = Sorts.withKeys(6, false, 1);
        z.flush();
        due("behind flush", z.combine(true), NOT_POSSIBLE);
    }

    private static void promise4() {
        checks.begin("promise 4");
        GrantedSort x = new GrantedSort();
        due("empty memory", x.flush(), NONE);
        due("NONE is recorded", x.undo(), 0);
        x.add(8);
        x.add(2);
        due("first run", x.flush(), 0);
        due("memory", x.memory(1), 0);
        checks.same("the run", Sorts.run(x, 0), "2#1*1 8#0*1");
        due("costs", x.count(3), 2);
        due("empty again", x.flush(), NONE);
        x.add(2);
        due("second run", x.flush(), 1);
        due("runs", x.runs(), 2);
        x.finish();
        due("behind finish", x.flush(), NOT_POSSIBLE);
    }

    private static void promise5() {
        checks.begin("promise 5");
        GrantedSort x = Sorts.withKeys(2, false, 5, 4, 3, 2, 1);
        due("finish", x.finish(), 3);
        due("isCollecting", x.isCollecting(), 0);
        due("memory(1)", x.memory(1), 0);
        checks.same("the last run", Sorts.run(x, 2), "1#4*1");
        due("costs", x.count(3), 5);
        due("again", x.finish(), NOT_POSSIBLE);
        due("nothing in vain was recorded", x.undo(), 3);
        due("isCollecting", x.isCollecting(), 1);
        due("empty", new GrantedSort().finish(), 0);
        GrantedSort y = Sorts.withKeys(2, false, 1);
        y.flush();
        due("with an empty memory", y.finish(), 1);
    }

    private static void promise6() {
        checks.begin("promise 6");
        GrantedSort x = Sorts.withKeys(6, false, 1);
        due("before", x.isCollecting(), 1);
        x.flush();
        due("behind flush", x.isCollecting(), 1);
        x.run();
        due("behind run", x.isCollecting(), 0);
        x.undo();
        due("behind undo", x.isCollecting(), 1);
    }

    private static void promise7Collecting() {
        checks.begin("promise 7, collecting");
        GrantedSort x = new GrantedSort();
        due("grant(1)", x.grant(1), BAD_VALUE);
        due("grant(21)", x.grant(21), BAD_VALUE);
        due("nothing recorded", x.undo(), NOT_POSSIBLE);
        due("grant(20)", x.grant(20), 0);
        for (int i = 0; i < 20; i++) {
            x.add(i);
        }
        due("20 rows in memory", x.memory(1), 20);
        due("the same size", x.grant(20), 0);
        due("one less", x.grant(19), 1);
        due("written", x.size(0), 20);
        due("empty", x.memory(1), 0);
        x.add(1);
        x.add(2);
        due("just room", x.grant(2), 0);
        due("both are there", x.memory(1), 2);
        due("size", x.memory(0), 2);
        due("more", x.grant(3), 0);
        due("still there", x.memory(1), 2);
    }

    private static void promise7Merging() {
        checks.begin("promise 7, merging");
        GrantedSort x = new GrantedSort();
        int[][] runs = {{1, 50}, {2, 60}, {3, 70}, {4}};
        for (int[] run : runs) {
            for (int key : run) {
                x.add(key);
            }
            x.flush();
        }
        x.finish();
        x.grant(5);
        due("inputs", x.merge(), 4);
        due("room for all inputs", x.grant(5), 0);
        due("steps", x.step(1), 1);
        int costs = x.count(3);
        due("cut short", x.grant(3), 5);
        due("merging", x.isMerging(), 0);
        checks.same("run numbers", Sorts.runNumbers(x), "4 5 6 7 8");
        checks.same("output", Sorts.run(x, 4), "1#0*1");
        checks.same("first input", Sorts.run(x, 5), "50#1*1");
        checks.same("second input", Sorts.run(x, 6), "2#2*1 60#3*1");
        checks.same("third input", Sorts.run(x, 7), "3#4*1 70#5*1");
        checks.same("fourth input", Sorts.run(x, 8), "4#6*1");
        due("no costs", x.count(3), costs);
        due("cuts", x.count(5), 1);
        x.undo();
        due("undone", x.isMerging(), 1);
        x.step(3);
        due("an input is empty", x.ofMerge(1), 3);
        due("room for the three left", x.grant(4), 0);
        due("merging", x.isMerging(), 1);
        due("no room", x.grant(3), 4);
        checks.same("output", Sorts.run(x, 4), "1#0*1 2#2*1 3#4*1 4#6*1");
        GrantedSort y = Sorts.withRunsOf(4, 1, 2, 3);
        y.merge();
        due("cut with an empty output", y.grant(3), 3);
        checks.same("run numbers", Sorts.runNumbers(y), "3 4 5");
        due("numbered", y.count(6), 6);
        GrantedSort z = new GrantedSort();
        for (int i = 0; i < 3; i++) {
            z.add(i);
            z.flush();
        }
        z.add(8);
        z.add(9);
        z.flush();
        z.finish();
        z.merge();
        z.step(4);
        due("one input with rows left needs one way", z.grant(2), 0);
        due("the merge goes on", z.step(9), 1);
        due("done", z.isDone(), 1);
        GrantedSort w = Sorts.withRunsOf(20, 1, 2, 3, 4, 5, 6, 7, 8, 9);
        due("eight ways at the most", w.merge(), 8);
        due("nine rows are enough", w.grant(9), 0);
        due("eight are not", w.grant(8), 8);
    }

    private static void promise7Combining() {
        checks.begin("promise 7, combining");
        GrantedSort x = Sorts.withKeys(6, true, 5);
        x.flush();
        x.add(5);
        x.flush();
        x.add(5);
        x.finish();
        x.merge();
        x.step(2);
        due("rows", x.count(1), 2);
        due("inputs", x.ofMerge(1), 1);
        x.undo();
        x.step(1);
        due("cut", x.grant(2), 3);
        due("rows with equal keys in different runs", x.count(1), 3);
        due("counts", x.count(2), 3);
        checks.same("run 3", Sorts.run(x, 3), "5#0*1");
        checks.same("run 4", Sorts.run(x, 4), "5#1*1");
    }

    private static void promise8() {
        checks.begin("promise 8");
        GrantedSort x = Sorts.withKeys(4, false, 9, 8, 7);
        due("size", x.memory(0), 4);
        due("rows", x.memory(1), 3);
        due("ways", x.memory(2), 3);
        due("-1", x.memory(-1), BAD_VALUE);
        due("3", x.memory(3), BAD_VALUE);
        for (int size = 2; size <= 20; size++) {
            x.grant(size);
            due("size", x.memory(0), size);
            due("ways", x.memory(2), Math.min(size - 1, 8));
        }
        GrantedSort y = Sorts.withRunsOf(6, 1, 2, 3);
        due("no merge", y.memory(1), 0);
        y.merge();
        due("begun", y.memory(1), 4);
        y.step(1);
        due("an input is empty", y.memory(1), 3);
        y.step(2);
        due("over", y.memory(1), 0);
    }

    private static void promise9() {
        checks.begin("promise 9");
        GrantedSort x = Sorts.withKeys(6, false, 30, 10, 20);
        due("0", x.inMemory(0), 30);
        due("1", x.inMemory(1), 10);
        due("2", x.inMemory(2), 20);
        due("3", x.inMemory(3), NO_SUCH);
        due("-1", x.inMemory(-1), NO_SUCH);
        due("far", x.inMemory(Integer.MAX_VALUE), NO_SUCH);
        due("farther", x.inMemory(Integer.MIN_VALUE), NO_SUCH);
        x.finish();
        due("behind finish", x.inMemory(0), NO_SUCH);
        GrantedSort y = Sorts.withKeys(6, true, 30, 10, 30, 20);
        due("combined rows take no room", y.inMemory(2), 20);
        due("combined", y.inMemory(3), NO_SUCH);
    }

    private static void promise10() {
        checks.begin("promise 10");
        GrantedSort x = new GrantedSort();
        int[] lengths = {3, 1, 2, 1, 3, 2};
        for (int length : lengths) {
            for (int i = 0; i < length; i++) {
                x.add(i);
            }
            x.flush();
        }
        x.grant(5);
        due("while rows are collected", x.merge(), NOT_POSSIBLE);
        x.finish();
        due("four ways", x.merge(), 4);
        checks.same("the longest two stay", Sorts.runNumbers(x), "0 4");
        due("rows", x.ofMerge(3), 6);
        due("merges", x.count(4), 1);
        due("there is a merge", x.merge(), NOT_POSSIBLE);
        x.undo();
        x.grant(4);
        due("three ways", x.merge(), 3);
        checks.same("the lower number goes first", Sorts.runNumbers(x), "0 4 5");
        x.step(200);
        due("all that are left", x.grant(20), 0);
        due("all", x.merge(), 4);
        x.step(200);
        due("one run", x.merge(), NOT_POSSIBLE);
        GrantedSort y = Sorts.withRunsOf(2, 1, 2);
        due("one way", y.merge(), NOT_POSSIBLE);
        y.grant(3);
        due("two ways", y.merge(), 2);
        GrantedSort z = new GrantedSort();
        z.finish();
        due("no run", z.merge(), NOT_POSSIBLE);
    }

    private static void promise11() {
        checks.begin("promise 11");
        GrantedSort x = new GrantedSort();
        int[][] runs = {{7, 3}, {3, 9}, {5}};
        for (int[] run : runs) {
            for (int key : run) {
                x.add(key);
            }
            x.flush();
        }
        due("no merge", x.step(1), NOT_POSSIBLE);
        due("step(0)", x.step(0), BAD_VALUE);
        due("step(201)", x.step(201), BAD_VALUE);
        due("step(-1)", x.step(-1), BAD_VALUE);
        x.finish();
        x.merge();
        due("BAD_VALUE", x.step(201), BAD_VALUE);
        int costs = x.count(3);
        due("two steps", x.step(2), 2);
        due("costs", x.count(3), costs + 4);
        due("output", x.ofMerge(2), 2);
        due("left", x.ofMerge(3), 3);
        due("no run yet", x.runs(), 0);
        due("the rest", x.step(200), 3);
        checks.same("the run", Sorts.run(x, 3), "3#1*1 3#2*1 5#4*1 7#0*1 9#3*1");
        due("over", x.step(1), NOT_POSSIBLE);
        due("costs", x.count(3), 15);
        GrantedSort y = Sorts.withRunsOf(6, 1, 2);
        y.merge();
        due("all steps and no more", y.step(2), 2);
        due("over with the last row", y.isMerging(), 0);
    }

    private static void promise11Combining() {
        checks.begin("promise 11, combining");
        GrantedSort x = Sorts.withKeys(6, true, 4, 4, 8);
        x.flush();
        x.add(4);
        x.add(8);
        x.flush();
        x.add(4);
        x.add(6);
        x.finish();
        x.merge();
        int costs = x.count(3);
        due("steps", x.step(3), 3);
        due("one row in the output", x.ofMerge(2), 1);
        due("combining costs nothing", x.count(3), costs + 4);
        due("rows", x.count(1), 4);
        due("steps", x.step(200), 3);
        checks.same("the run", Sorts.run(x, 3), "4#0*4 6#6*1 8#2*2");
        due("counts", x.count(2), 7);
        GrantedSort y = Sorts.withKeys(6, false, 4);
        y.flush();
        y.add(4);
        y.finish();
        y.merge();
        y.step(2);
        checks.same("without combining", Sorts.run(y, 2), "4#0*1 4#1*1");
    }

    private static void promise12() {
        checks.begin("promise 12");
        GrantedSort x = Sorts.withKeys(3, false, 9, 8, 7, 6, 5, 4, 3, 2, 1, 0);
        due("run", x.run(), 3);
        due("done", x.isDone(), 1);
        checks.same("sorted", Sorts.run(x, x.runAt(0)),
            "0#9*1 1#8*1 2#7*1 3#6*1 4#5*1 5#4*1 6#3*1 7#2*1 8#1*1 9#0*1");
        due("merges", x.count(4), 3);
        due("costs", x.count(3), 10 + 2 * (4 + 6 + 10));
        due("nothing to do", x.run(), 0);
        due("it was recorded", x.undo(), 3);
        due("still done", x.isDone(), 1);
        x.undo();
        due("undone", x.isCollecting(), 1);
        due("nothing at all", new GrantedSort().run(), 0);
        GrantedSort y = Sorts.withRunsOf(6, 1, 2, 3, 4, 5, 6, 7);
        y.merge();
        y.step(2);
        due("the merge there is is not counted", y.run(), 1);
        due("merges", y.count(4), 2);
        checks.same("run numbers", Sorts.runNumbers(y), "8");
    }

    private static void promise12NotPossible() {
        checks.begin("promise 12, not possible");
        GrantedSort x = Sorts.withKeys(2, false, 1, 2, 3);
        due("a run and a row in memory", x.run(), NOT_POSSIBLE);
        due("nothing has changed", x.isCollecting(), 1);
        due("the row is there", x.memory(1), 1);
        GrantedSort y = Sorts.withKeys(2, false, 1, 2);
        due("one run needs no merge", y.run(), 0);
        due("done", y.isDone(), 1);
        GrantedSort z = Sorts.withKeys(6, false, 1, 2);
        z.flush();
        z.add(0);
        z.finish();
        z.merge();
        z.step(1);
        z.grant(2);
        due("the last input of the only merge", z.isMerging(), 1);
        due("the merge is ended", z.run(), 0);
        due("done", z.isDone(), 1);
        GrantedSort w = new GrantedSort();
        int[] lengths = {1, 2, 3};
        for (int length : lengths) {
            for (int i = 0; i < length; i++) {
                w.add(length * 10 + i);
            }
            w.flush();
        }
        w.finish();
        w.grant(3);
        w.merge();
        w.step(1);
        w.grant(2);
        due("a merge and a run", w.run(), NOT_POSSIBLE);
        due("nothing has changed", w.ofMerge(3), 2);
        due("nothing recorded", w.undo(), 3);
        due("the grant is undone", w.memory(0), 3);
    }

    private static void promise12ManyRuns() {
        checks.begin("promise 12, as many runs as rows");
        int[] keys = new int[120];
        for (int i = 0; i < keys.length; i++) {
            keys[i] = i * 7 % 120;
        }
        GrantedSort x = Sorts.withRunsOf(3, keys);
        due("runs", x.runs(), 120);
        due("merge", x.merge(), 2);
        due("without the inputs", x.runAt(0), 2);
        due("the last run", x.runAt(117), 119);
        due("room for no input", x.grant(2), 2);
        due("the last run", x.runAt(119), 121);
        x.undo();
        due("run", x.run(), 118);
        due("merges", x.count(4), 119);
        due("costs", x.count(3), 120 + 2 * (120 + 120 + 120 + 112 + 24 + 96 + 56 + 64 + 120));
        int run = x.runAt(0);
        due("one run", run, 238);
        for (int i = 0; i < keys.length; i++) {
            due("sorted", x.row(run, i, 0), i);
        }
    }

    private static void promise13And14() {
        checks.begin("promises 13 and 14");
        GrantedSort x = new GrantedSort();
        due("not done while rows are collected", x.isDone(), 0);
        x.add(2);
        x.flush();
        due("not done with one run", x.isDone(), 0);
        x.add(1);
        x.finish();
        due("two runs", x.isDone(), 0);
        due("not merging", x.isMerging(), 0);
        x.merge();
        due("merging", x.isMerging(), 1);
        due("no run, but a merge", x.isDone(), 0);
        x.step(1);
        due("still merging", x.isMerging(), 1);
        x.step(1);
        due("over", x.isMerging(), 0);
        due("done", x.isDone(), 1);
        GrantedSort y = new GrantedSort();
        y.finish();
        due("done without rows", y.isDone(), 1);
    }

    private static void promise15() {
        checks.begin("promise 15");
        GrantedSort x = new GrantedSort();
        due("-1", x.ofMerge(-1), BAD_VALUE);
        due("4", x.ofMerge(4), BAD_VALUE);
        for (int part = 0; part <= 3; part++) {
            due("no merge", x.ofMerge(part), NONE);
        }
        int[][] runs = {{1, 2}, {3}, {4, 5, 6}};
        for (int[] run : runs) {
            for (int key : run) {
                x.add(key);
            }
            x.flush();
        }
        x.finish();
        x.merge();
        x.step(2);
        due("inputs when it was begun", x.ofMerge(0), 3);
        due("inputs that are not empty", x.ofMerge(1), 2);
        due("output", x.ofMerge(2), 2);
        due("rows in all inputs", x.ofMerge(3), 4);
        due("4 in a merge", x.ofMerge(4), BAD_VALUE);
        x.step(200);
        due("over", x.ofMerge(0), NONE);
    }

    private static void promise16And17() {
        checks.begin("promises 16 and 17");
        GrantedSort x = Sorts.withRunsOf(3, 5, 4, 3, 2);
        due("runs", x.runs(), 4);
        due("runAt(3)", x.runAt(3), 3);
        due("runAt(4)", x.runAt(4), NO_SUCH);
        due("runAt(-1)", x.runAt(-1), NO_SUCH);
        due("far", x.runAt(Integer.MAX_VALUE), NO_SUCH);
        due("farther", x.runAt(Integer.MIN_VALUE), NO_SUCH);
        x.merge();
        due("without the inputs", x.runs(), 2);
        due("runAt(0)", x.runAt(0), 2);
        due("runAt(2)", x.runAt(2), NO_SUCH);
        x.step(2);
        due("with the output that became a run", x.runs(), 3);
        due("runAt(2)", x.runAt(2), 4);
    }

    private static void promise18() {
        checks.begin("promise 18");
        GrantedSort x = Sorts.withKeys(6, false, 3, 2, 1);
        due("no run", x.size(0), NO_SUCH);
        x.flush();
        due("three rows", x.size(0), 3);
        due("-1", x.size(-1), NO_SUCH);
        due("1", x.size(1), NO_SUCH);
        x.add(1);
        x.finish();
        x.merge();
        due("an input is no run", x.size(0), NO_SUCH);
        due("nor is the last one", x.size(1), NO_SUCH);
        x.step(4);
        due("a number is not used again", x.size(0), NO_SUCH);
        due("the output", x.size(2), 4);
    }

    private static void promise19() {
        checks.begin("promise 19");
        GrantedSort x = Sorts.withKeys(6, true, 7, 3, 7);
        due("no run", x.row(0, 0, 0), NO_SUCH);
        x.flush();
        due("key", x.row(0, 1, 0), 7);
        due("number", x.row(0, 1, 1), 0);
        due("count", x.row(0, 1, 2), 2);
        due("count of the first row", x.row(0, 0, 2), 1);
        due("index 2", x.row(0, 2, 0), NO_SUCH);
        due("index -1", x.row(0, -1, 0), NO_SUCH);
        due("run 1", x.row(1, 0, 0), NO_SUCH);
        due("run -1", x.row(-1, 0, 0), NO_SUCH);
        due("part 3", x.row(0, 0, 3), BAD_VALUE);
        due("part -1", x.row(0, 0, -1), BAD_VALUE);
        due("NO_SUCH goes ahead of BAD_VALUE", x.row(0, 2, 3), NO_SUCH);
        due("far", x.row(0, Integer.MAX_VALUE, 0), NO_SUCH);
        due("farther", x.row(Integer.MIN_VALUE, Integer.MIN_VALUE, 0), NO_SUCH);
        GrantedSort y = Sorts.withKeys(6, false, 1, 2);
        y.flush();
        y.add(3);
        y.finish();
        y.merge();
        y.step(1);
        y.grant(2);
        due("a run that was cut off", y.row(2, 0, 0), 1);
        due("behind it", y.row(2, 1, 0), NO_SUCH);
    }

    private static void promise20() {
        checks.begin("promise 20");
        GrantedSort x = Sorts.withKeys(6, true, 5, 5, 6);
        due("-1", x.count(-1), BAD_VALUE);
        due("7", x.count(7), BAD_VALUE);
        x.flush();
        x.add(5);
        x.flush();
        x.add(9);
        due("added", x.count(0), 5);
        due("rows", x.count(1), 4);
        due("counts", x.count(2), 5);
        due("costs", x.count(3), 3);
        due("runs", x.count(6), 2);
        x.finish();
        x.grant(4);
        x.merge();
        x.step(1);
        due("rows of inputs and output", x.count(1), 4);
        x.step(1);
        due("combined", x.count(1), 3);
        due("counts", x.count(2), 5);
        due("costs", x.count(3), 4 + 3);
        due("merges", x.count(4), 1);
        due("cuts", x.count(5), 0);
        x.grant(2);
        due("cuts", x.count(5), 1);
        due("runs", x.count(6), 3 + 3);
        due("merges", x.count(4), 1);
        x.undo();
        due("cuts, undone", x.count(5), 0);
        GrantedSort y = Sorts.withKeys(6, true, 999, 0, 999);
        due("counts of the greatest key", y.count(2), 3);
    }

    private static void promise21() {
        checks.begin("promise 21");
        GrantedSort x = Sorts.withKeys(6, true, 5, 5, 6, 0);
        due("-1", x.rank(-1), BAD_VALUE);
        due("1000", x.rank(1000), BAD_VALUE);
        due("0", x.rank(0), 0);
        due("5", x.rank(5), 1);
        due("6", x.rank(6), 3);
        due("999", x.rank(999), 4);
        x.flush();
        x.add(3);
        x.add(999);
        due("runs and memory", x.rank(6), 4);
        x.finish();
        x.merge();
        x.step(2);
        due("inputs and output", x.rank(6), 4);
        due("the greatest key", x.rank(999), 5);
    }

    private static void promise22And23() {
        checks.begin("promises 22 and 23");
        GrantedSort x = Sorts.withKeys(3, false, 9, 8, 7, 6, 5, 4, 3, 2, 1, 0);
        due("costsWith(1)", x.costsWith(1), BAD_VALUE);
        due("costsWith(21)", x.costsWith(21), BAD_VALUE);
        due("mergesWith(1)", x.mergesWith(1), BAD_VALUE);
        due("mergesWith(21)", x.mergesWith(21), BAD_VALUE);
        due("costsWith(2)", x.costsWith(2), NOT_POSSIBLE);
        due("mergesWith(2)", x.mergesWith(2), NOT_POSSIBLE);
        due("costs of two ways", x.costsWith(3), 1 + 2 * (4 + 6 + 10));
        due("merges of two ways", x.mergesWith(3), 3);
        due("costs of three ways", x.costsWith(4), 1 + 2 * (7 + 10));
        due("merges of three ways", x.mergesWith(4), 2);
        due("costs of four ways", x.costsWith(5), 1 + 2 * 10);
        due("merges of four ways", x.mergesWith(5), 1);
        due("costs of 20", x.costsWith(20), 21);
        due("nothing changed", x.isCollecting(), 1);
        due("costs so far", x.count(3), 9);
        due("memory", x.memory(0), 3);
        due("numbers", x.count(6), 3);
        due("nothing recorded", x.undo(), 3);
        GrantedSort y = Sorts.withKeys(6, true, 5);
        y.flush();
        y.add(5);
        y.finish();
        due("combining costs nothing", y.costsWith(3), 3);
        y.run();
        due("done", y.costsWith(2), 0);
        due("done", y.mergesWith(2), 0);
        GrantedSort z = Sorts.withKeys(6, false, 1, 2, 3);
        due("grant writes and run needs no merge", z.costsWith(2), 3);
        z.flush();
        due("one run", z.costsWith(2), 0);
    }

    private static void promise22WhileMerging() {
        checks.begin("promises 22 and 23, merging");
        GrantedSort x = Sorts.withRunsOf(4, 1, 2, 3);
        x.merge();
        x.step(1);
        due("going on", x.costsWith(3), 4);
        due("no merge is begun", x.mergesWith(3), 0);
        x.undo();
        due("cut short", x.costsWith(3), 2 * (2 + 3));
        due("merges", x.mergesWith(3), 2);
        due("cut short, and no merge possible", x.costsWith(2), NOT_POSSIBLE);
        due("not cut short", x.costsWith(4), 6);
        due("still merging", x.isMerging(), 1);
        due("not counted", x.count(5), 0);
    }

    private static void promise24() {
        checks.begin("promise 24");
        due("no rows", new GrantedSort().bestSize(), 2);
        due("one run", Sorts.withKeys(6, false, 1, 2, 3).bestSize(), 2);
        GrantedSort x = Sorts.withKeys(3, false, 9, 8, 7, 6, 5, 4, 3, 2, 1, 0);
        due("four runs at once", x.bestSize(), 5);
        due("nothing changed", x.memory(0), 3);
        due("nothing recorded", x.undo(), 3);
        GrantedSort y = Sorts.withRunsOf(2, 1, 2);
        due("two runs", y.bestSize(), 3);
        due("seven runs", Sorts.withRunsOf(3, 1, 2, 3, 4, 5, 6, 7).bestSize(), 8);
        due("eight runs", Sorts.withRunsOf(3, 1, 2, 3, 4, 5, 6, 7, 8).bestSize(), 9);
        due("as many runs as eight ways take", Sorts.withRunsOf(3, new int[64]).bestSize(), 9);
        GrantedSort z = Sorts.withRunsOf(3, 1, 2, 3, 4, 5, 6, 7, 8, 9);
        int best = z.bestSize();
        int least = z.costsWith(best);
        for (int size = 3; size <= 20; size++) {
            checks.holds("no size is better", z.costsWith(size) >= least);
            checks.holds("no less size is as good", size >= best || z.costsWith(size) > least);
        }
        GrantedSort w = Sorts.withRunsOf(4, 1, 2, 3);
        w.merge();
        due("a cut costs more", w.bestSize(), 4);
        w.step(2);
        due("one input left", w.bestSize(), 2);
    }

    private static void promise25And26() {
        checks.begin("promises 25 and 26");
        GrantedSort x = new GrantedSort();
        due("32", x.append(32), BAD_VALUE);
        due("127", x.append(127), BAD_VALUE);
        due("33", x.append(33), 1);
        due("126", x.append(126), 2);
        due("clearText", x.clearText(), 2);
        due("again", x.clearText(), 0);
        for (int i = 1; i <= 80; i++) {
            due("append", x.append('1'), i);
        }
        due("full", x.append('1'), LIMIT);
        due("BAD_VALUE goes ahead of LIMIT", x.append(0), BAD_VALUE);
        due("80 characters", x.clearText(), 80);
        due("nothing recorded", x.undo(), NOT_POSSIBLE);
    }

    private static void promise27() {
        checks.begin("promise 27");
        String[] texts = {"0", "999", "7x2", "7x20", "0x9", "0-1", "998-999", "5-10", "1,2,3", "0,0x2,0-999"};
        for (String text : texts) {
            due(text, Sorts.withText(text).errorPosition(), NONE);
        }
        String[] unfinished = {"", "1,", "7x", "7x1", "7-", "50-4", "5-5", "500-50", "9-10,"};
        for (String text : unfinished) {
            due(text, Sorts.withText(text).errorPosition(), text.length());
        }
        String[] wrong = {"!", "a", ",", "x", "-", "00", "01", "1000", "1a", "1,,", "1,x", "7x0", "7x21", "7x30",
            "7x200", "7xx", "7x-", "7x,", "7x2x", "7x2-", "999-", "5-0", "0-0", "500-4",
            "500-500", "998-998", "5-10000",
            "5-10x", "5-10-", "5-,", "50-4,", "5-x", "5--", "1;", "12X"};
        for (String text : wrong) {
            GrantedSort x = Sorts.withText(text + "1");
            due(text, x.errorPosition(), text.length() - (text.equals("5-10000") ? 2 : 1));
        }
        GrantedSort full = Sorts.withText("1,".repeat(40));
        due("80 characters that are no text", full.errorPosition(), 80);
        due("the buffer stays", full.clearText(), 80);
        due("an early error", Sorts.withText("x1,2").errorPosition(), 0);
        due("the second item", Sorts.withText("5-9,9-9,x").errorPosition(), 7);
    }

    private static void promise28() {
        checks.begin("promise 28");
        GrantedSort x = Sorts.withText("5,3x4,8-10");
        due("read", x.read(), 8);
        due("emptied", x.clearText(), 0);
        due("in memory", x.inMemory(0), 9);
        due("in memory", x.inMemory(1), 10);
        checks.same("the run", Sorts.run(x, 0), "3#1*1 3#2*1 3#3*1 3#4*1 5#0*1 8#5*1");
        due("undo", x.undo(), 0);
        due("no rows", x.count(0), 0);
        due("the buffer is not undone", x.clearText(), 0);
        Sorts.type(x, "0-999,1");
        due("up to the 120th row", x.read(), 120);
        due("rows", x.count(0), 120);
        due("the last one", x.inMemory(5), 119);
        Sorts.type(x, "1x20");
        due("no room", x.read(), 0);
        due("emptied all the same", x.clearText(), 0);
        due("recorded all the same", x.undo(), 1);
        GrantedSort y = Sorts.withKeys(6, false, 1, 1, 1);
        for (int i = 3; i < 118; i++) {
            y.add(i);
        }
        Sorts.type(y, "4,7x3,5");
        due("two rows more", y.read(), 2);
        due("keys", y.inMemory(y.memory(1) - 1), 7);
        GrantedSort z = Sorts.withKeys(6, true);
        Sorts.type(z, "5x3,4,5");
        due("combined rows are added too", z.read(), 5);
        due("two rows", z.memory(1), 2);
    }

    private static void promise28Refused() {
        checks.begin("promise 28, refused");
        GrantedSort x = Sorts.withText("");
        due("empty", x.read(), BAD_TEXT);
        Sorts.type(x, "5,");
        due("unfinished", x.read(), BAD_TEXT);
        due("the buffer stays", x.append('6'), 3);
        due("nothing recorded", x.undo(), NOT_POSSIBLE);
        due("now it is a text", x.read(), 2);
        x.finish();
        Sorts.type(x, "5");
        due("behind finish", x.read(), NOT_POSSIBLE);
        due("the buffer stays", x.clearText(), 1);
        Sorts.type(x, "5;");
        due("BAD_TEXT goes ahead of NOT_POSSIBLE", x.read(), BAD_TEXT);
        due("the buffer stays", x.clearText(), 2);
    }

    private static void promise29() {
        checks.begin("promise 29");
        GrantedSort x = new GrantedSort();
        due("none", x.undo(), NOT_POSSIBLE);
        for (int i = 0; i < 6; i++) {
            x.add(i);
        }
        for (int left = 3; left >= 0; left--) {
            due("undo", x.undo(), left);
            due("rows", x.count(0), left + 2);
        }
        due("the oldest ones were discarded", x.undo(), NOT_POSSIBLE);
        due("rows", x.count(0), 2);
        x.add(7);
        due("a new one", x.undo(), 0);
        for (int i = 0; i < 9; i++) {
            x.grant(10 + i);
            x.grant(5);
            x.undo();
        }
        due("memory", x.memory(0), 18);
        due("undo", x.undo(), 2);
        due("memory", x.memory(0), 17);
        GrantedSort y = Sorts.withText("1,2");
        y.add(3);
        y.save();
        y.undo();
        due("the buffer is no state", y.errorPosition(), NONE);
        due("nor is the saved state", y.restore(), 1);
    }

    private static void promise29WhatIsUndoable() {
        checks.begin("promise 29, what is undoable");
        GrantedSort x = new GrantedSort();
        x.combine(false);
        due("combine", x.undo(), 0);
        x.grant(6);
        due("grant", x.undo(), 0);
        x.flush();
        due("flush", x.undo(), 0);
        x.finish();
        due("finish", x.undo(), 0);
        x.run();
        due("run", x.undo(), 0);
        x.add(1);
        due("add", x.undo(), 0);
        x.save();
        due("save is not", x.undo(), NOT_POSSIBLE);
        x.restore();
        due("restore", x.undo(), 0);
        Sorts.type(x, "1,2");
        x.read();
        due("read", x.undo(), 0);
        x.clearText();
        x.costsWith(5);
        x.bestSize();
        x.errorPosition();
        due("nothing else", x.undo(), NOT_POSSIBLE);
        GrantedSort y = Sorts.withRunsOf(6, 1, 2);
        y.merge();
        due("merge", y.undo(), 3);
        y.merge();
        y.step(1);
        due("step", y.undo(), 3);
        due("the merge is as it was", y.ofMerge(3), 2);
        due("output", y.ofMerge(2), 0);
        y.step(2);
        checks.same("sorted", Sorts.run(y, 2), "1#0*1 2#1*1");
    }

    private static void promise29AnotherPast() {
        checks.begin("promise 29, another past");
        GrantedSort x = Sorts.withRunsOf(6, 1, 2, 3);
        x.merge();
        x.step(1);
        x.step(2);
        x.grant(3);
        due("undo grant", x.undo(), 3);
        due("undo the last steps", x.undo(), 2);
        due("inputs when it was begun", x.ofMerge(0), 3);
        due("output", x.ofMerge(2), 1);
        x.step(2);
        checks.same("the run", Sorts.run(x, 3), "1#0*1 2#1*1 3#2*1");
        GrantedSort y = Sorts.withKeys(6, false, 5, 4, 3);
        y.flush();
        y.undo();
        y.undo();
        y.add(9);
        y.flush();
        checks.same("another last row", Sorts.run(y, 0), "4#1*1 5#0*1 9#2*1");
        GrantedSort z = Sorts.withKeys(6, true, 5, 5);
        z.undo();
        z.flush();
        checks.same("not combined any more", Sorts.run(z, 0), "5#0*1");
    }

    private static void promise30And31() {
        checks.begin("promises 30 and 31");
        GrantedSort x = new GrantedSort();
        due("nothing saved", x.restore(), NOT_POSSIBLE);
        x.add(4);
        x.add(2);
        due("save", x.save(), 2);
        x.add(3);
        x.grant(3);
        x.run();
        due("restore", x.restore(), 2);
        due("collecting", x.isCollecting(), 1);
        due("memory", x.memory(0), 6);
        due("rows", x.inMemory(1), 2);
        due("costs", x.count(3), 0);
        x.undo();
        due("restore is undoable", x.isDone(), 1);
        due("it remains saved", x.restore(), 2);
        x.add(9);
        x.add(9);
        due("a change does not reach it", x.restore(), 2);
        x.add(1);
        due("save again", x.save(), 3);
        x.undo();
        due("overwritten", x.restore(), 3);
        due("the last row", x.inMemory(2), 1);
        GrantedSort y = Sorts.withRunsOf(6, 1, 2, 3);
        y.merge();
        y.step(1);
        due("save in a merge", y.save(), 3);
        y.step(200);
        y.restore();
        due("the merge is back", y.ofMerge(3), 2);
        due("output", y.ofMerge(2), 1);
        y.step(200);
        checks.same("the run", Sorts.run(y, 3), "1#0*1 2#1*1 3#2*1");
        Sorts.type(y, "12");
        y.restore();
        due("the buffer is no state", y.clearText(), 2);
        GrantedSort z = new GrantedSort();
        due("an empty sort", z.save(), 0);
        z.add(1);
        due("restored", z.restore(), 0);
        due("recorded states stay", z.undo(), 1);
        due("rows", z.count(0), 1);
    }
}
