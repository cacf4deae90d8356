import java.util.function.Supplier;

/** Promises 1 to 6: a new object, add, combine, flush, finish and isCollecting. */
final class CollectingSentences extends SentenceGroup {
    private static final Supplier<GrantedSort> FINISHED = () -> Sorts.withRuns(3, false, "4 / 3 / 2");
    private static final Supplier<GrantedSort> MERGING = Twins.after(FINISHED, GrantedSort::merge);
    private static final Supplier<GrantedSort> DONE = Twins.after(FINISHED, GrantedSort::run);

    CollectingSentences(Checks checks, Document document) {
        super(checks, document);
    }

    @Override
    void all() {
        promise1();
        promise2Key();
        promise2Number();
        promise2NotPossible();
        promise2Limit();
        promise3Switches();
        promise3NotPossible();
        promise4Number();
        promise4NoneAndNotPossible();
        promise5Runs();
        promise5NotPossible();
        promise6();
    }

    private void promise1() {
        holds("Promise 1", "GrantedSort(): Creates a sort without rows, which collects, and does not combine.");
        GrantedSort x = new GrantedSort();
        for (int what = 0; what <= 6; what++) {
            due("count(" + what + ")", x.count(what), 0);
        }
        due("rows in memory", x.memory(1), 0);
        due("a row in memory", x.inMemory(0), NO_SUCH);
        due("runs", x.runs(), 0);
        due("a run", x.runAt(0), NO_SUCH);
        due("rank", x.rank(999), 0);
        due("collects", x.isCollecting(), 1);
        due("not done, though there is no run", x.isDone(), 0);
        due("no merge", x.isMerging(), 0);
        due("characters", x.clearText(), 0);
        due("nothing recorded", x.undo(), NOT_POSSIBLE);
        due("nothing saved", x.restore(), NOT_POSSIBLE);
        x.add(5);
        x.add(5);
        due("does not combine", x.count(1), 2);
        due("told by combine()", new GrantedSort().combine(true), 0);
    }

    private void promise2Key() {
        holds("Promise 2", "key: 0 to 999");
        GrantedSort x = new GrantedSort();
        due("the least key", x.add(0), 0);
        due("the greatest key", x.add(999), 1);
        due("both are there", Sorts.memory(x), "0 999");
        holds("Promise 2", "BAD_VALUE if key is out of range");
        due("one too small", x.add(-1), BAD_VALUE);
        due("one too large", x.add(1000), BAD_VALUE);
        dueForAll("add", FAR, x::add, BAD_VALUE);
        due("rows", x.count(0), 2);
        refused("add(-1)", () -> Sorts.withKeys(2, true, 1, 2), y -> y.add(-1), BAD_VALUE);
        refused("add(1000) with a full memory", () -> Sorts.withKeys(2, false, 1, 2), y -> y.add(1000), BAD_VALUE);
    }

    private void promise2Number() {
        holds("Promise 2", "int add(int key): Adds a row. Undoable.");
        undoable("the first row", GrantedSort::new, x -> x.add(5), 0);
        undoable("a row that is combined", () -> Sorts.withKeys(4, true, 5, 6), x -> x.add(5), 2);
        undoable("a row that writes a full memory", () -> Sorts.withKeys(2, false, 6, 5), x -> x.add(4), 2);
        holds("Promise 2", "Returns the number of the row");
        GrantedSort x = new GrantedSort();
        for (int row = 0; row < 120; row++) {
            due("add", x.add(row * 37 % 1000), row);
        }
        due("the last one", x.inMemory(5), 119 * 37 % 1000);
        GrantedSort y = Sorts.withKeys(2, true, 7, 7, 8);
        due("combined rows have numbers", y.add(7), 3);
        due("behind a full memory", y.add(9), 4);
        y.flush();
        due("behind flush", y.add(1), 5);
        y.undo();
        due("behind undo", y.add(2), 5);
    }

    private void promise2NotPossible() {
        holds("Promise 2", "NOT_POSSIBLE if rows are not collected any more");
        refused("behind finish", FINISHED, x -> x.add(5), NOT_POSSIBLE);
        refused("in a merge", MERGING, x -> x.add(5), NOT_POSSIBLE);
        refused("done", DONE, x -> x.add(5), NOT_POSSIBLE);
        refused("finished without rows", Twins.after(GrantedSort::new, GrantedSort::finish), x -> x.add(5),
            NOT_POSSIBLE);
        GrantedSort x = FINISHED.get();
        x.undo();
        x.undo();
        due("collecting again behind undo", x.add(5), 3);
    }

    private void promise2Limit() {
        holds("Promise 2", "LIMIT if 120 rows were added.");
        refused("120 rows", () -> Sorts.withRows(6, 120), x -> x.add(5), LIMIT);
        refused("120 rows and room in memory", () -> Sorts.withRows(7, 120), x -> x.add(5), LIMIT);
        refused("a key that would be combined", () -> {
            GrantedSort x = Sorts.withKeys(6, true);
            Sorts.type(x, "5x20,5x20,5x20,5x20,5x20,5x20");
            x.read();
            return x;
        }, x -> x.add(5), LIMIT);
        GrantedSort x = Sorts.withRows(6, 119);
        due("119 rows", x.add(5), 119);
        due("120 rows", x.add(5), LIMIT);
        x.undo();
        due("119 rows behind undo", x.add(5), 119);
    }

    private void promise3Switches() {
        holds("Promise 3", "int combine(boolean isCombining): Switches the combining mode. Undoable.");
        undoable("on", GrantedSort::new, x -> x.combine(true), 0);
        undoable("off", () -> Sorts.withKeys(6, true), x -> x.combine(false), 1);
        undoable("on, as it was", () -> Sorts.withKeys(6, true), x -> x.combine(true), 1);
        holds("Promise 3", "isCombining: whether rows are combined from now on");
        due("combined", Sorts.withKeys(6, true, 5, 5).count(1), 1);
        due("not combined", Sorts.withKeys(6, false, 5, 5).count(1), 2);
        GrantedSort x = new GrantedSort();
        holds("Promise 3", "Returns 1 if they were combined, otherwise 0");
        due("off to on", x.combine(true), 0);
        due("on to on", x.combine(true), 1);
        due("on to off", x.combine(false), 1);
        due("off to off", x.combine(false), 0);
        x.finish();
        due("without rows, behind finish", x.combine(true), 0);
        due("without rows, behind finish", x.combine(false), 1);
    }

    private void promise3NotPossible() {
        holds("Promise 3", "NOT_POSSIBLE if a row was added already.");
        refused("a row in memory", () -> Sorts.withKeys(6, true, 5), x -> x.combine(false), NOT_POSSIBLE);
        refused("a row in memory, to the mode that there is", () -> Sorts.withKeys(6, false, 5), x -> x.combine(false),
            NOT_POSSIBLE);
        refused("a row that was written", () -> Sorts.withRuns(6, false, "5"), x -> x.combine(true), NOT_POSSIBLE);
        refused("rows in a merge", MERGING, x -> x.combine(true), NOT_POSSIBLE);
        GrantedSort read = Sorts.withText("5");
        read.read();
        due("a row that was read", read.combine(true), NOT_POSSIBLE);
        GrantedSort x = new GrantedSort();
        x.save();
        x.add(5);
        x.undo();
        due("the row is undone", x.combine(true), 0);
        x.add(5);
        due("a row", x.combine(true), NOT_POSSIBLE);
        x.restore();
        due("no row in the state that is restored", x.combine(true), 0);
    }

    private void promise4Number() {
        holds("Promise 4", "int flush(): Writes the rows in memory. Undoable.");
        undoable("one row", () -> Sorts.withKeys(6, false, 5), GrantedSort::flush, 0);
        undoable("a full memory", () -> Sorts.withKeys(3, true, 5, 4, 5, 3), GrantedSort::flush, 0);
        undoable("an empty memory", GrantedSort::new, GrantedSort::flush, NONE);
        holds("Promise 4", "Returns the number of the run");
        GrantedSort x = Sorts.withKeys(2, false, 9, 8, 7);
        due("behind a run of a full memory", x.flush(), 1);
        x.add(6);
        due("the next one", x.flush(), 2);
        due("the disk", Sorts.disk(x), "0: 8#1*1 9#0*1 / 1: 7#2*1 / 2: 6#3*1");
    }

    private void promise4NoneAndNotPossible() {
        holds("Promise 4", "NONE if the memory is empty");
        GrantedSort x = new GrantedSort();
        due("no row was added", x.flush(), NONE);
        x.add(5);
        due("one row", x.flush(), 0);
        due("written already", x.flush(), NONE);
        due("runs", x.runs(), 1);
        due("numbered", x.count(6), 1);
        holds("Promise 4", "NOT_POSSIBLE if rows are not collected any more.");
        refused("behind finish", FINISHED, GrantedSort::flush, NOT_POSSIBLE);
        refused("behind finish without rows", Twins.after(GrantedSort::new, GrantedSort::finish), GrantedSort::flush,
            NOT_POSSIBLE);
        refused("in a merge", MERGING, GrantedSort::flush, NOT_POSSIBLE);
        refused("done", DONE, GrantedSort::flush, NOT_POSSIBLE);
    }

    private void promise5Runs() {
        holds("Promise 5", "int finish(): Ends the collecting. Undoable.");
        undoable("rows in memory", () -> Sorts.withKeys(6, false, 5, 4), GrantedSort::finish, 1);
        undoable("no rows", GrantedSort::new, GrantedSort::finish, 0);
        GrantedSort x = Sorts.withKeys(2, true, 9, 8, 9, 7);
        x.finish();
        due("collecting", x.isCollecting(), 0);
        due("the disk", Sorts.disk(x), "0: 8#1*1 9#0*2 / 1: 7#3*1");
        holds("Promise 5", "Returns the number of runs then");
        due("no run", new GrantedSort().finish(), 0);
        due("with the run that finish() writes", Sorts.withKeys(2, false, 1, 2, 3, 4, 5).finish(), 3);
        due("with a memory that is just full", Sorts.withKeys(2, false, 1, 2, 3, 4).finish(), 2);
        GrantedSort y = Sorts.withKeys(2, false, 1, 2, 3);
        y.flush();
        due("with an empty memory", y.finish(), 2);
    }

    private void promise5NotPossible() {
        holds("Promise 5", "NOT_POSSIBLE if rows are not collected any more.");
        refused("behind finish", FINISHED, GrantedSort::finish, NOT_POSSIBLE);
        refused("behind finish without rows", Twins.after(GrantedSort::new, GrantedSort::finish), GrantedSort::finish,
            NOT_POSSIBLE);
        refused("in a merge", MERGING, GrantedSort::finish, NOT_POSSIBLE);
        refused("done", DONE, GrantedSort::finish, NOT_POSSIBLE);
        refused("behind run", Twins.after(GrantedSort::new, GrantedSort::run), GrantedSort::finish, NOT_POSSIBLE);
    }

    private void promise6() {
        holds("Promise 6", "int isCollecting(): Returns 1 while rows are collected, otherwise 0.");
        due("new", new GrantedSort().isCollecting(), 1);
        due("120 rows", Sorts.withRows(6, 120).isCollecting(), 1);
        GrantedSort x = Sorts.withKeys(2, false, 3, 2, 1);
        x.run();
        due("behind a run() that is refused", x.isCollecting(), 1);
        x.finish();
        due("behind finish", x.isCollecting(), 0);
        x.undo();
        due("behind undo", x.isCollecting(), 1);
        due("in a merge", MERGING.get().isCollecting(), 0);
        due("done", DONE.get().isCollecting(), 0);
        due("run() without rows", Twins.after(GrantedSort::new, GrantedSort::run).get().isCollecting(), 0);
    }
}
