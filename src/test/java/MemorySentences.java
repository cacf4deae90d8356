/** Promises 7 to 9: grant, memory and inMemory. */
final class MemorySentences extends SentenceGroup {
    MemorySentences(Checks checks, Document document) {
        super(checks, document);
    }

    @Override
    void all() {
        promise7Size();
        promise7BadValue();
        promise7Runs();
        promise8Parts();
        promise8NeededByAMerge();
        promise8BadValue();
        promise9Index();
        promise9NoSuch();
    }

    private void promise7Size() {
        holds("Promise 7", "int grant(int size): Changes the size of the memory. Undoable.");
        undoable("more", () -> Sorts.withKeys(6, false, 5, 4), x -> x.grant(20), 0);
        undoable("the size that it has", () -> Sorts.withKeys(6, false, 5, 4), x -> x.grant(6), 0);
        undoable("rows are written", () -> Sorts.withKeys(6, true, 5, 4, 5, 3), x -> x.grant(2), 1);
        undoable("a merge is cut short", Twins.after(() -> Sorts.withRuns(5, false, "3 9/1 8/2 7"), GrantedSort::merge),
            x -> x.grant(3), 3);
        holds("Promise 7", "size: 2 to 20");
        GrantedSort x = new GrantedSort();
        due("the least", x.grant(2), 0);
        due("size", x.memory(0), 2);
        due("the greatest", x.grant(20), 0);
        due("size", x.memory(0), 20);
    }

    private void promise7BadValue() {
        holds("Promise 7", "BAD_VALUE if size is out of range.");
        GrantedSort x = new GrantedSort();
        due("one too small", x.grant(1), BAD_VALUE);
        due("none", x.grant(0), BAD_VALUE);
        due("less than none", x.grant(-1), BAD_VALUE);
        due("one too large", x.grant(21), BAD_VALUE);
        dueForAll("grant", FAR, x::grant, BAD_VALUE);
        refused("too small, with rows in memory", () -> Sorts.withKeys(6, false, 5, 4), y -> y.grant(1), BAD_VALUE);
        refused("too small, in a merge", Twins.after(() -> Sorts.withRuns(6, false, "2/1"), GrantedSort::merge),
            y -> y.grant(1), BAD_VALUE);
        refused("too large, in a merge", Twins.after(() -> Sorts.withRuns(6, false, "2/1"), GrantedSort::merge),
            y -> y.grant(21), BAD_VALUE);
    }

    private void promise7Runs() {
        holds("Promise 7", "Returns the number of runs that are written or come back by this");
        due("an empty memory", new GrantedSort().grant(2), 0);
        due("room for all rows", Sorts.withKeys(20, false, 5, 4).grant(2), 0);
        due("room for all but one", Sorts.withKeys(20, false, 5, 4, 3).grant(2), 1);
        due("20 rows, one run", Sorts.withRows(20, 20).grant(2), 1);
        due("no merge", Sorts.withRuns(20, false, "1/2/3").grant(2), 0);
        GrantedSort x = Sorts.withRuns(9, false, "1 20/2 19/3 18/4 17/5 16/6 15/7 14/8 13");
        x.merge();
        due("room for all inputs", x.grant(9), 0);
        due("inputs come back", x.grant(2), 8);
        x.undo();
        x.step(1);
        due("the output is written, and inputs come back", x.grant(2), 9);
        x.undo();
        x.step(13);
        due("two inputs are left", x.ofMerge(1), 2);
        due("room for both", x.grant(3), 0);
        due("and the output", x.grant(2), 3);
    }

    private void promise8Parts() {
        holds("Promise 8", "int memory(int part): Returns something about the memory.");
        holds("Promise 8", "part: 0 for its size, 1 for the number of rows in it while rows are collected,");
        GrantedSort x = Sorts.withKeys(2, true);
        due("size", x.memory(0), 2);
        due("no rows", x.memory(1), 0);
        x.add(5);
        x.add(5);
        due("combined rows", x.memory(1), 1);
        x.add(6);
        due("a full memory", x.memory(1), 2);
        x.add(7);
        due("one row behind a full memory", x.memory(1), 1);
        x.flush();
        due("flushed", x.memory(1), 0);
        due("the greatest memory", Sorts.withRows(20, 40).memory(1), 20);
        holds("Promise 8", "2 for the ways of a merge that would be begun now (the size minus 1, but at most 8)");
        for (int size = 2; size <= 20; size++) {
            x.grant(size);
            due("ways while rows are collected, with the memory " + size, x.memory(2), WAYS[size - 2]);
        }
        GrantedSort y = Sorts.withRuns(9, false, "1/2/3");
        y.merge();
        due("in a merge: not its inputs, but what the size allows", y.memory(2), 8);
        holds("Promise 8", "Returns the number");
        due("size", y.memory(0), 9);
    }

    private void promise8NeededByAMerge() {
        holds("Promise 8", "or that a merge needs now (one for each input with rows left, and one more), 0 if there is"
            + " no merge;");
        GrantedSort x = Sorts.withRuns(9, false, "1 4/2/3 6");
        due("no merge", x.memory(1), 0);
        x.merge();
        due("three inputs", x.memory(1), 4);
        x.step(1);
        due("three inputs with rows left", x.memory(1), 4);
        x.step(1);
        due("two inputs with rows left", x.memory(1), 3);
        x.step(2);
        due("one input with rows left", x.memory(1), 2);
        x.step(1);
        due("over", x.memory(1), 0);
        x.undo();
        x.undo();
        due("two again", x.memory(1), 3);
        x.grant(2);
        due("cut short", x.memory(1), 0);
        due("finished without rows", Twins.after(GrantedSort::new, GrantedSort::finish).get().memory(1), 0);
    }

    private void promise8BadValue() {
        holds("Promise 8", "BAD_VALUE if part is out of range.");
        GrantedSort x = Sorts.withKeys(6, false, 5);
        due("one too small", x.memory(-1), BAD_VALUE);
        due("one too large", x.memory(3), BAD_VALUE);
        dueForAll("memory", FAR, x::memory, BAD_VALUE);
        x.finish();
        due("one too small", x.memory(-1), BAD_VALUE);
        due("one too large", x.memory(3), BAD_VALUE);
    }

    private void promise9Index() {
        holds("Promise 9", "int inMemory(int index): Returns the key of a row in memory while rows are collected.");
        holds("Promise 9", "index: 0 for the row that was added first");
        GrantedSort x = Sorts.withKeys(3, false, 30, 0, 999);
        holds("Promise 9", "Returns the key");
        due("the first row", x.inMemory(0), 30);
        due("the second row", x.inMemory(1), 0);
        due("the last row", x.inMemory(2), 999);
        x.add(7);
        due("behind a full memory", x.inMemory(0), 7);
        GrantedSort y = Sorts.withRows(20, 20);
        due("the last row of the greatest memory", y.inMemory(19), 19);
        GrantedSort z = Sorts.withKeys(6, true, 8, 9, 8, 7);
        due("rows that are combined have no index", z.inMemory(2), 7);
    }

    private void promise9NoSuch() {
        holds("Promise 9", "NO_SUCH if there is no such row.");
        due("an empty memory", new GrantedSort().inMemory(0), NO_SUCH);
        GrantedSort x = Sorts.withKeys(3, false, 30, 10, 20);
        due("one too small", x.inMemory(-1), NO_SUCH);
        due("one too large", x.inMemory(3), NO_SUCH);
        dueForAll("inMemory", FAR, x::inMemory, NO_SUCH);
        x.add(7);
        due("a row that was written", x.inMemory(1), NO_SUCH);
        due("one too large for the greatest memory", Sorts.withRows(20, 20).inMemory(20), NO_SUCH);
        x.finish();
        due("behind finish", x.inMemory(0), NO_SUCH);
        GrantedSort y = Sorts.withRuns(6, false, "1/2");
        y.merge();
        due("in a merge", y.inMemory(0), NO_SUCH);
    }
}
