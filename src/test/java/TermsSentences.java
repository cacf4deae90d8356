import java.util.Map;
import java.util.function.Supplier;

/** "What it is", and of "Terms": return values, rows, memory, runs and phases. */
final class TermsSentences extends SentenceGroup {
    TermsSentences(Checks checks, Document document) {
        super(checks, document);
    }

    @Override
    void all() {
        withoutBoundary();
        memoryIsAskedBack();
        calls512();
        orderIsRight();
        codesOfFailures();
        firstCodeThatApplies();
        refusedCallsChangeNothing();
        noneOnlyIfNoCodeApplies();
        keysAndNumbers();
        atMost120Rows();
        orderOfRows();
        roomFor2To20();
        orderInMemory();
        combinedInMemory();
        numbersOfRuns();
        nothingWrittenOfAnEmptyMemory();
        fullMemoryIsWritten();
        phases();
        ways();
    }

    private void withoutBoundary() {
        noBoundary("Terms", "Costs are counted and foretold, plans are compared, and rows are read from texts.",
            "All numbers are integers.", "Return values.", "Rows.", "Memory.", "Runs.", "Phases.",
            "A run is a list of rows in their order; runs lie on a disk.");
    }

    private void memoryIsAskedBack() {
        holds("What it is", "A sort whose memory is asked back: rows are collected in memory, written as sorted runs"
            + " when it is full or is made smaller, and merged with as many ways as the memory allows; a merge that"
            + " loses its memory halfway is cut short, and what is done of it becomes a run.");
        GrantedSort x = Sorts.withKeys(3, false, 9, 5, 7);
        due("runs of a memory that is just full", x.runs(), 0);
        x.add(8);
        due("one row more than is room for", Sorts.disk(x), "0: 5#1*1 7#2*1 9#0*1");
        x.add(6);
        x.add(4);
        due("made smaller", x.grant(2), 1);
        due("both runs", Sorts.disk(x), "0: 5#1*1 7#2*1 9#0*1 / 1: 4#5*1 6#4*1 8#3*1");
        x.finish();
        x.grant(3);
        due("as many ways as the memory allows", x.merge(), 2);
        x.step(1);
        due("cut short", x.grant(2), 3);
        due("what is done becomes a run", Sorts.disk(x), "2: 4#5*1 / 3: 5#1*1 7#2*1 9#0*1 / 4: 6#4*1 8#3*1");
    }

    private void calls512() {
        holds("What it is", "An object is used for at most 512 calls after it has been made; what later calls answer"
            + " is free.");
        due("the 512th call: the runs numbered", behind511Calls().count(6), 120 + 90 * 8);
        due("the 512th call: the last run", behind511Calls().runAt(119), 839);
        due("the 512th call: its size", behind511Calls().size(839), 1);
        due("the 512th call: its row", behind511Calls().row(839, 0, 2), 1);
        due("the 512th call: merges", behind511Calls().count(4), 90);
        due("the 512th call: merges that were cut short", behind511Calls().count(5), 90);
        due("the 512th call: costs", behind511Calls().count(3), 120);
        due("the 512th call: rank", behind511Calls().rank(60), 60);
        due("the 512th call: the size of an input", behind511Calls().size(719), NO_SUCH);
        due("the 512th call: undo", behind511Calls().undo(), 3);
        due("the 512th call: merge", behind511Calls().merge(), NOT_POSSIBLE);
        due("the 512th call: grant", behind511Calls().grant(3), 0);
        GrantedSort x = new GrantedSort();
        for (int call = 1; call <= 512; call++) {
            due("call " + call + ", grant", x.grant(2 + call % 19), 0);
        }
    }

    /** Each of the 120 rows is a run; eight of them are merged and cut short, again and again. */
    private static GrantedSort behind511Calls() {
        GrantedSort x = new GrantedSort();
        for (int key = 0; key < 120; key++) {
            x.add(key);
            x.flush();
        }
        x.finish();
        for (int merge = 0; merge < 90; merge++) {
            x.grant(9);
            x.merge();
            x.grant(2);
        }
        return x;
    }

    private void orderIsRight() {
        holds("Terms", "The order is right whatever memory there was.");
        for (int size = 2; size <= 20; size++) {
            GrantedSort x = new GrantedSort();
            x.grant(size);
            Sorts.type(x, "9,4x3,7,1-6,2x2,9,0,4,999,0-12,4x5");
            due("rows with the memory " + size, x.read(), 35);
            x.finish();
            x.grant(Math.max(3, size));
            x.run();
            due("sorted with the memory " + size, outOfOrder(x, x.runAt(0)), 0);
            due("all rows with the memory " + size, x.size(x.runAt(0)), 35);
        }
        GrantedSort y = new GrantedSort();
        for (int row = 0; row < 60; row++) {
            y.grant(2 + row * 7 % 19);
            y.add(row * 31 % 17);
        }
        y.finish();
        for (int size = 3; size <= 20; size++) {
            y.grant(size);
            y.merge();
            y.step(size);
            y.grant(2);
        }
        y.grant(4);
        y.run();
        due("sorted with other memory all the time", outOfOrder(y, y.runAt(0)), 0);
        due("all rows", y.size(y.runAt(0)), 60);
    }

    private static int outOfOrder(GrantedSort x, int run) {
        int wrong = 0;
        int rows = x.size(run);
        int lastKey = -1;
        int lastNumber = -1;
        for (int i = 0; i < rows; i++) {
            int key = x.row(run, i, 0);
            int number = x.row(run, i, 1);
            wrong += key > lastKey || (key == lastKey && number > lastNumber) ? 0 : 1;
            lastKey = key;
            lastNumber = number;
        }
        return wrong;
    }

    private void codesOfFailures() {
        holds("Terms", "A method that fails returns one of the error codes NO_SUCH, BAD_VALUE, NOT_POSSIBLE, LIMIT and"
            + " BAD_TEXT.");
        due("a run that there is not", new GrantedSort().size(0), GrantedSort.NO_SUCH);
        due("a key out of range", new GrantedSort().add(1000), GrantedSort.BAD_VALUE);
        due("undo() of nothing", new GrantedSort().undo(), GrantedSort.NOT_POSSIBLE);
        due("a 121st row", Sorts.withRows(6, 120).add(0), GrantedSort.LIMIT);
        due("an empty text", new GrantedSort().read(), GrantedSort.BAD_TEXT);
    }

    private void firstCodeThatApplies() {
        holds("Terms", "Each method lists its error codes in the order in which they are checked; the first one that"
            + " applies is returned.");
        GrantedSort full = Sorts.withRows(6, 120);
        due("add: BAD_VALUE ahead of LIMIT", full.add(-1), BAD_VALUE);
        full.finish();
        due("add: BAD_VALUE ahead of NOT_POSSIBLE and LIMIT", full.add(1000), BAD_VALUE);
        due("add: NOT_POSSIBLE ahead of LIMIT", full.add(999), NOT_POSSIBLE);
        due("step: BAD_VALUE ahead of NOT_POSSIBLE", full.step(0), BAD_VALUE);
        due("step: BAD_VALUE ahead of NOT_POSSIBLE", full.step(201), BAD_VALUE);
        due("row: NO_SUCH of the run ahead of BAD_VALUE", full.row(20, 0, 3), NO_SUCH);
        due("row: NO_SUCH of the row ahead of BAD_VALUE", full.row(0, 6, -1), NO_SUCH);
        due("costsWith: BAD_VALUE ahead of NOT_POSSIBLE", full.costsWith(1), BAD_VALUE);
        due("mergesWith: BAD_VALUE ahead of NOT_POSSIBLE", full.mergesWith(1), BAD_VALUE);
        due("read: BAD_TEXT ahead of NOT_POSSIBLE", full.read(), BAD_TEXT);
        GrantedSort x = Sorts.withText("1".repeat(80));
        due("append: BAD_VALUE ahead of LIMIT", x.append(32), BAD_VALUE);
        due("append: BAD_VALUE ahead of LIMIT", x.append(127), BAD_VALUE);
    }

    private void refusedCallsChangeNothing() {
        holds("Terms", "A call that returns an error code changes nothing.");
        int refused = 0;
        for (Map.Entry<String, Supplier<GrantedSort>> state : States.all().entrySet()) {
            String before = Twins.whole(state.getValue());
            for (Calls.Call call : Calls.all()) {
                int answer = call.of(state.getValue().get());
                if (answer < 0 && answer != NONE) {
                    due(call.name() + " with " + state.getKey(),
                        Twins.whole(Twins.after(state.getValue(), call::of)), before);
                    refused++;
                }
            }
        }
        due("many calls are refused", refused > 500 ? 1 : 0, 1);
    }

    private void noneOnlyIfNoCodeApplies() {
        holds("Terms", "NONE is not an error code; a method returns NONE only if no error code applies.");
        GrantedSort x = new GrantedSort();
        due("flush of an empty memory", x.flush(), NONE);
        due("it is recorded, as it is no error", x.undo(), 0);
        x.finish();
        due("flush behind finish, where the memory is empty too", x.flush(), NOT_POSSIBLE);
        due("ofMerge without a merge", x.ofMerge(3), NONE);
        due("ofMerge of no part, without a merge", x.ofMerge(4), BAD_VALUE);
        due("ofMerge of no part, without a merge", x.ofMerge(-1), BAD_VALUE);
    }

    private void keysAndNumbers() {
        holds("Terms", "A row has a key from 0 to 999 and a number; the rows are numbered from 0 in the order in which"
            + " they were added.");
        GrantedSort x = new GrantedSort();
        due("a key too small", x.add(-1), BAD_VALUE);
        due("the first row has the number 0", x.add(999), 0);
        due("a key too large", x.add(1000), BAD_VALUE);
        due("a refused row takes no number", x.add(0), 1);
        x.flush();
        due("a row behind a run", x.add(500), 2);
        x.flush();
        due("the runs", Sorts.disk(x), "0: 0#1*1 999#0*1 / 1: 500#2*1");
    }

    private void atMost120Rows() {
        holds("Terms", "At most 120 rows can be added.");
        GrantedSort x = Sorts.withRows(20, 119);
        due("the 120th row", x.add(7), 119);
        due("the 121st row", x.add(7), LIMIT);
        due("rows", x.count(0), 120);
        x.undo();
        due("the 120th row once more", x.add(8), 119);
        x.grant(2);
        due("with an empty memory too", x.add(8), LIMIT);
        GrantedSort y = Sorts.withKeys(2, true, 4);
        for (int row = 1; row < 120; row++) {
            due("a combined row", y.add(4), row);
        }
        due("combined rows count", y.add(4), LIMIT);
        due("of another key too", y.add(5), LIMIT);
        due("the one row that is kept", y.count(1), 1);
        due("its count", y.count(2), 120);
    }

    private void orderOfRows() {
        holds("Terms", "A row comes before another one if its key is less, or if the keys are equal and its number is"
            + " less.");
        GrantedSort x = Sorts.withKeys(8, false, 5, 0, 999, 5, 4, 0, 998, 5);
        x.flush();
        due("in memory", Sorts.run(x, 0), "0#1*1 0#5*1 4#4*1 5#0*1 5#3*1 5#7*1 998#6*1 999#2*1");
        GrantedSort y = Sorts.withRuns(3, false, "5 / 6 / 5 7 8");
        y.merge();
        y.step(2);
        due("the lower number lies in the later run", Sorts.disk(y), "2: 5#2*1 7#3*1 8#4*1 / 3: 5#0*1 6#1*1");
        y.merge();
        y.step(5);
        due("in a merge", Sorts.disk(y), "4: 5#0*1 5#2*1 6#1*1 7#3*1 8#4*1");
        GrantedSort z = Sorts.withRows(20, 116);
        z.flush();
        for (int key = 40; key <= 41; key++) {
            z.add(key);
            z.flush();
        }
        z.add(60);
        z.add(50);
        z.finish();
        z.grant(3);
        z.merge();
        z.step(2);
        z.merge();
        z.step(4);
        due("the 120th row, in a run of a lower number", Sorts.run(z, 10), "40#116*1 41#117*1 50#119*1 60#118*1");
    }

    private void roomFor2To20() {
        holds("Terms", "The memory has room for 2 to 20 rows; this is its size, 6 at the beginning.");
        GrantedSort x = new GrantedSort();
        due("at the beginning", x.memory(0), 6);
        dueRoom("the memory of the beginning", x, 6);
        for (int size = 2; size <= 20; size++) {
            GrantedSort y = new GrantedSort();
            due("grant " + size, y.grant(size), 0);
            due("size", y.memory(0), size);
            dueRoom("a memory of " + size, y, size);
        }
        due("one less", x.grant(1), BAD_VALUE);
        due("one more", x.grant(21), BAD_VALUE);
        due("still", x.memory(0), 6);
    }

    private void dueRoom(String what, GrantedSort x, int rows) {
        for (int i = 0; i < rows; i++) {
            x.add(i);
        }
        due(what + ": full", x.memory(1), rows);
        due(what + ": runs", x.runs(), 0);
        x.add(500);
        due(what + ": one row more", x.memory(1), 1);
        due(what + ": the run", x.size(0), rows);
    }

    private void orderInMemory() {
        holds("Terms", "While rows are collected, they stay in memory in the order in which they were added.");
        GrantedSort x = Sorts.withKeys(4, false, 9, 1, 9, 0);
        due("a full memory", Sorts.memory(x), "9 1 9 0");
        x.costsWith(2);
        x.bestSize();
        x.rank(5);
        x.grant(20);
        due("a larger one", Sorts.memory(x), "9 1 9 0");
        x.add(4);
        due("one more", Sorts.memory(x), "9 1 9 0 4");
        x.grant(5);
        due("one that is just large enough", Sorts.memory(x), "9 1 9 0 4");
    }

    private void combinedInMemory() {
        holds("Terms", "In the combining mode, a row that is added while a row with an equal key is in memory is not"
            + " kept: it is combined with that row, whose count increases by 1 (the count of a row is 1 at first); it"
            + " has a number all the same.");
        GrantedSort x = Sorts.withKeys(2, true, 8, 3);
        due("an equal key, and the memory is full", x.add(8), 2);
        due("nothing was written", x.runs(), 0);
        due("the memory", Sorts.memory(x), "8 3");
        due("once more", x.add(8), 3);
        due("another key", x.add(7), 4);
        due("the run", Sorts.disk(x), "0: 3#1*1 8#0*3");
        due("an equal key on the disk only", x.add(8), 5);
        due("it is kept", Sorts.memory(x), "7 8");
        x.flush();
        due("counted from 1 again", Sorts.run(x, 1), "7#4*1 8#5*1");
        GrantedSort y = Sorts.withKeys(2, false, 8, 8);
        due("not in the combining mode", Sorts.memory(y), "8 8");
        y.flush();
        due("not in the combining mode", Sorts.run(y, 0), "8#0*1 8#1*1");
    }

    private void numbersOfRuns() {
        holds("Terms", "The runs are numbered from 0 in the order in which they were written, and a number is not used"
            + " again.");
        GrantedSort x = Sorts.withKeys(6, false, 4);
        due("the first run", x.flush(), 0);
        x.add(2);
        due("the second run", x.flush(), 1);
        x.finish();
        x.merge();
        x.step(2);
        due("the output has the next number", Sorts.runNumbers(x), "2");
        due("numbered", x.count(6), 3);
        GrantedSort y = Sorts.withRuns(4, false, "1 2 / 3 4 / 5 6");
        y.merge();
        y.grant(3);
        due("runs that come back have new numbers", Sorts.runNumbers(y), "3 4 5");
        y.merge();
        y.step(1);
        y.grant(2);
        due("and newer ones", Sorts.runNumbers(y), "5 6 7 8");
        due("numbered", y.count(6), 9);
    }

    private void nothingWrittenOfAnEmptyMemory() {
        holds("Terms", "To write the rows in memory is to make a run of them in their order and to empty the memory;"
            + " nothing is written if the memory is empty.");
        GrantedSort x = Sorts.withKeys(6, false, 4, 2);
        x.flush();
        due("the run", Sorts.disk(x), "0: 2#1*1 4#0*1");
        due("the memory", x.memory(1), 0);
        due("no row in it", x.inMemory(0), NO_SUCH);
        due("flush", x.flush(), NONE);
        due("grant", x.grant(2), 0);
        due("finish", x.finish(), 1);
        due("runs numbered", x.count(6), 1);
        due("costs", x.count(3), 2);
        GrantedSort y = new GrantedSort();
        due("run", y.run(), 0);
        due("runs", y.runs(), 0);
        due("runs numbered", y.count(6), 0);
        due("costs", y.count(3), 0);
    }

    private void fullMemoryIsWritten() {
        holds("Terms", "While rows are collected, the rows in memory are written if a row is added that must be kept"
            + " and the memory is full (then the row is added to the empty memory).");
        GrantedSort x = Sorts.withKeys(3, false, 6, 5);
        x.add(4);
        due("just full", x.runs(), 0);
        due("the number of the row", x.add(3), 3);
        due("the run", Sorts.disk(x), "0: 4#2*1 5#1*1 6#0*1");
        due("the memory", Sorts.memory(x), "3");
        GrantedSort y = Sorts.withKeys(3, true, 6, 5, 4);
        y.add(4);
        due("a row that need not be kept", y.runs(), 0);
        y.add(3);
        due("a row that must be kept", Sorts.disk(y), "0: 4#2*2 5#1*1 6#0*1");
        due("the memory", Sorts.memory(y), "3");
    }

    private void phases() {
        holds("Terms", "There are two phases, collecting and merging.");
        GrantedSort x = Sorts.withKeys(6, false, 1);
        x.flush();
        x.add(2);
        due("collecting: a merge", x.merge(), NOT_POSSIBLE);
        due("collecting: a step", x.step(1), NOT_POSSIBLE);
        holds("Terms", "The phase of merging begins with finish(): the rows in memory are written.");
        due("finish", x.finish(), 2);
        due("merging", x.isCollecting(), 0);
        due("the runs", Sorts.disk(x), "0: 1#0*1 / 1: 2#1*1");
        due("the memory", x.memory(1), 0);
        due("no row in it", x.inMemory(0), NO_SUCH);
        x.run();
        due("done, and still merging", x.isCollecting(), 0);
        due("merging: a row", x.add(3), NOT_POSSIBLE);
        holds("Terms", "In this phase there are passes: a merge takes some runs, which are its inputs, and writes a new"
            + " run, its output.");
        GrantedSort y = Sorts.withRuns(3, false, "1 / 2 / 3");
        y.merge();
        due("the runs beside the inputs", Sorts.runNumbers(y), "2");
        y.step(2);
        due("with the output", Sorts.runNumbers(y), "2 3");
    }

    private void ways() {
        holds("Terms", "A merge needs memory for one row of each input and one row of the output; so a merge has at"
            + " most so many inputs, its ways: the size of the memory minus 1, but at most 8.");
        for (int size = 2; size <= 20; size++) {
            GrantedSort x = Sorts.withRuns(size, false, "1/2/3/4/5/6/7/8/9/10");
            int due = WAYS[size - 2];
            due("ways with the memory " + size, x.memory(2), due);
            due("inputs with the memory " + size, x.merge(), due < 2 ? NOT_POSSIBLE : due);
            due("memory that it needs", x.memory(1), due < 2 ? 0 : due + 1);
        }
    }
}
