import java.util.function.Supplier;

/** Promises 10 to 15: merge, step, run, isMerging, isDone and ofMerge. */
final class MergingSentences extends SentenceGroup {
    private static final Supplier<GrantedSort> COLLECTING = () -> Sorts.withKeys(3, false, 9, 8, 7, 6, 5, 4, 3);
    private static final Supplier<GrantedSort> THREE_RUNS = () -> Sorts.withRuns(4, false, "1 4 / 2 / 3 6");
    private static final Supplier<GrantedSort> MERGING = Twins.after(THREE_RUNS, GrantedSort::merge);

    MergingSentences(Checks checks, Document document) {
        super(checks, document);
    }

    @Override
    void all() {
        promise10Inputs();
        promise10NotPossible();
        promise11Steps();
        promise11BadValue();
        promise11NotPossible();
        promise12Merges();
        promise12ThereIsAMerge();
        promise12NotPossible();
        promise12NoMergeNeeded();
        promise13();
        promise14();
        promise15Parts();
        promise15BadValueAndNone();
    }

    private void promise10Inputs() {
        holds("Promise 10", "int merge(): Begins a merge. Undoable.");
        undoable("three runs", THREE_RUNS, GrantedSort::merge, 3);
        undoable("two of three runs", Twins.after(THREE_RUNS, x -> x.grant(3)), GrantedSort::merge, 2);
        GrantedSort x = THREE_RUNS.get();
        x.merge();
        due("begun", x.isMerging(), 1);
        due("counted", x.count(4), 1);
        due("no step is made", x.ofMerge(3), 5);
        due("no costs", x.count(3), 5);
        holds("Promise 10", "Returns the number of its inputs");
        for (int runs = 2; runs <= 9; runs++) {
            GrantedSort y = Sorts.withRunsOf(20, new int[runs]);
            due("of " + runs + " runs", y.merge(), Math.min(runs, 8));
            due("runs that are left", y.runs(), runs - Math.min(runs, 8));
        }
        due("of 120 runs", Sorts.withRunsOf(20, new int[120]).merge(), 8);
        due("of 120 runs, two ways", Sorts.withRunsOf(3, new int[120]).merge(), 2);
    }

    private void promise10NotPossible() {
        holds("Promise 10", "NOT_POSSIBLE if rows are still collected, if there is a merge, if there are fewer than 2"
            + " runs, or if its ways are fewer than 2.");
        refused("rows are still collected", COLLECTING, GrantedSort::merge, NOT_POSSIBLE);
        refused("there is a merge", MERGING, GrantedSort::merge, NOT_POSSIBLE);
        Supplier<GrantedSort> fourRuns = () -> Sorts.withRuns(3, false, "1/2/3/4");
        refused("there is a merge, and two runs more", Twins.after(fourRuns, GrantedSort::merge, x -> x.step(1)),
            GrantedSort::merge, NOT_POSSIBLE);
        refused("no run", Twins.after(GrantedSort::new, GrantedSort::finish), GrantedSort::merge, NOT_POSSIBLE);
        refused("one run", () -> Sorts.withRuns(20, false, "1 2 3"), GrantedSort::merge, NOT_POSSIBLE);
        refused("one way", () -> Sorts.withRuns(2, false, "1/2/3"), GrantedSort::merge, NOT_POSSIBLE);
        due("two runs and two ways", Sorts.withRuns(3, false, "1/2").merge(), 2);
    }

    private void promise11Steps() {
        holds("Promise 11", "int step(int steps): Makes steps of the merge, until it is over. Undoable.");
        undoable("one step", MERGING, x -> x.step(1), 1);
        undoable("all steps", MERGING, x -> x.step(5), 5);
        undoable("steps that combine", Twins.after(() -> Sorts.withRuns(4, true, "5 6/5 5 6/5 7"), GrantedSort::merge),
            x -> x.step(3), 3);
        holds("Promise 11", "steps: 1 to 200");
        due("the least", MERGING.get().step(1), 1);
        due("the most", MERGING.get().step(200), 5);
        holds("Promise 11", "Returns the number of steps that are made");
        GrantedSort x = MERGING.get();
        due("one less than there are", x.step(4), 4);
        due("not over", x.isMerging(), 1);
        due("more than there are", x.step(2), 1);
        due("over", x.isMerging(), 0);
        due("the run", Sorts.disk(x), "3: 1#0*1 2#2*1 3#3*1 4#1*1 6#4*1");
        GrantedSort y = MERGING.get();
        due("just as many as there are", y.step(5), 5);
        due("over", y.isMerging(), 0);
        GrantedSort z = Sorts.withRows(20, 120);
        z.finish();
        z.merge();
        due("all 120 rows", z.step(200), 120);
    }

    private void promise11BadValue() {
        holds("Promise 11", "BAD_VALUE if steps is out of range");
        refused("one too few", MERGING, x -> x.step(0), BAD_VALUE);
        refused("one too many", MERGING, x -> x.step(201), BAD_VALUE);
        refused("a step back", MERGING, x -> x.step(-1), BAD_VALUE);
        dueForAll("step", FAR, MERGING.get()::step, BAD_VALUE);
        due("without a merge", new GrantedSort().step(0), BAD_VALUE);
        due("without a merge", new GrantedSort().step(201), BAD_VALUE);
    }

    private void promise11NotPossible() {
        holds("Promise 11", "NOT_POSSIBLE if there is no merge.");
        refused("while rows are collected", COLLECTING, x -> x.step(1), NOT_POSSIBLE);
        refused("before a merge", THREE_RUNS, x -> x.step(200), NOT_POSSIBLE);
        refused("behind a merge", Twins.after(MERGING, x -> x.step(5)), x -> x.step(1), NOT_POSSIBLE);
        refused("behind a cut", Twins.after(MERGING, x -> x.grant(3)), x -> x.step(1), NOT_POSSIBLE);
        refused("without rows", GrantedSort::new, x -> x.step(1), NOT_POSSIBLE);
    }

    private void promise12Merges() {
        holds("Promise 12", "int run(): Ends the collecting, if rows are still collected, makes all steps of the merge,"
            + " if there is one, and then begins merges and makes their steps, one after the other, until the sort is"
            + " done. Undoable.");
        undoable("while rows are collected", COLLECTING, GrantedSort::run, 2);
        undoable("before a merge", THREE_RUNS, GrantedSort::run, 1);
        undoable("in a merge", MERGING, GrantedSort::run, 0);
        undoable("without rows", GrantedSort::new, GrantedSort::run, 0);
        undoable("done", Twins.after(THREE_RUNS, GrantedSort::run), GrantedSort::run, 0);
        GrantedSort x = COLLECTING.get();
        x.run();
        due("done", x.isDone(), 1);
        due("not collecting", x.isCollecting(), 0);
        due("sorted", Sorts.disk(x), "4: 3#6*1 4#5*1 5#4*1 6#3*1 7#2*1 8#1*1 9#0*1");
        due("costs: the runs of 3 and 1 first, then those of 3 and 4", x.count(3), 7 + 2 * 4 + 2 * 7);
        holds("Promise 12", "Returns the number of merges that are begun");
        due("nothing to merge", new GrantedSort().run(), 0);
        due("one run", Sorts.withKeys(6, false, 1, 2, 3).run(), 0);
        due("as many runs as ways", Sorts.withRunsOf(5, new int[4]).run(), 1);
        due("one run more", Sorts.withRunsOf(5, new int[5]).run(), 2);
        due("eight ways at the most, eight runs", Sorts.withRunsOf(20, new int[8]).run(), 1);
        due("eight ways at the most, nine runs", Sorts.withRunsOf(20, new int[9]).run(), 2);
        due("as many runs as rows, two ways", Sorts.withRunsOf(3, new int[120]).run(), 119);
    }

    private void promise12ThereIsAMerge() {
        holds("Promise 12", "makes all steps of the merge, if there is one, and then begins merges");
        GrantedSort x = Sorts.withRuns(3, false, "1 / 2 / 3 / 4");
        x.merge();
        x.step(1);
        due("the merge that there is does not count", x.run(), 2);
        due("merges", x.count(4), 3);
        due("sorted", Sorts.disk(x), "6: 1#0*1 2#1*1 3#2*1 4#3*1");
        GrantedSort y = Sorts.withRuns(3, true, "7 / 7");
        y.merge();
        due("it is the last one", y.run(), 0);
        due("sorted", Sorts.disk(y), "2: 7#0*2");
        due("done", y.isDone(), 1);
        GrantedSort z = Sorts.withRows(20, 120);
        z.finish();
        due("a merge of all 120 rows", z.merge(), 6);
        due("all its steps", z.run(), 0);
        due("done", z.isDone(), 1);
        due("all rows", z.size(6), 120);
    }

    private void promise12NotPossible() {
        holds("Promise 12", "NOT_POSSIBLE if a merge would have to be begun and its ways would be fewer than 2.");
        refused("two runs", () -> Sorts.withRuns(2, false, "1/2"), GrantedSort::run, NOT_POSSIBLE);
        refused("a run, and a row in memory", () -> Sorts.withKeys(2, false, 1, 2, 3), GrantedSort::run, NOT_POSSIBLE);
        refused("two runs, and an empty memory", () -> {
            GrantedSort x = Sorts.withKeys(2, false, 1, 2, 3);
            x.flush();
            return x;
        }, GrantedSort::run, NOT_POSSIBLE);
        refused("a merge with one input left, and a run", States.all().get("the same and a run"), GrantedSort::run,
            NOT_POSSIBLE);
        due("one way more", Sorts.withRuns(3, false, "1/2").run(), 1);
    }

    private void promise12NoMergeNeeded() {
        holds("Promise 12", "NOT_POSSIBLE if a merge would have to be begun and its ways would be fewer than 2.");
        due("one way, but no rows", Sorts.withKeys(2, false).run(), 0);
        due("one way, but one run", Sorts.withRuns(2, false, "1 2 3").run(), 0);
        due("one way, but only rows in memory", Sorts.withKeys(2, false, 2, 1).run(), 0);
        GrantedSort x = Sorts.withKeys(2, false, 2, 1);
        x.flush();
        due("one way, but one run and an empty memory", x.run(), 0);
        GrantedSort y = States.all().get("a merge with one input left, and one way").get();
        due("one way, but the last merge goes on", y.run(), 0);
        due("done", y.isDone(), 1);
        due("sorted", Sorts.disk(y), "2: 1#0*1 2#1*1 3#2*1 4#3*1 5#4*1 9#5*1");
    }

    private void promise13() {
        holds("Promise 13", "int isMerging(): Returns 1 if there is a merge, otherwise 0.");
        due("collecting", COLLECTING.get().isMerging(), 0);
        due("before a merge", THREE_RUNS.get().isMerging(), 0);
        GrantedSort x = MERGING.get();
        due("begun", x.isMerging(), 1);
        x.step(4);
        due("one row left", x.isMerging(), 1);
        x.step(1);
        due("over", x.isMerging(), 0);
        x.undo();
        due("behind undo", x.isMerging(), 1);
        x.run();
        due("done", x.isMerging(), 0);
        due("cut short", Twins.after(MERGING, y -> y.grant(2)).get().isMerging(), 0);
    }

    private void promise14() {
        holds("Promise 14", "int isDone(): Returns 1 if rows are not collected any more and the sort is done, otherwise"
            + " 0.");
        due("collecting without rows", new GrantedSort().isDone(), 0);
        GrantedSort x = Sorts.withKeys(6, false, 1);
        x.flush();
        due("collecting with one run", x.isDone(), 0);
        due("finish", x.finish(), 1);
        due("one run", x.isDone(), 1);
        x.undo();
        due("collecting behind undo", x.isDone(), 0);
        due("without rows", Twins.after(GrantedSort::new, GrantedSort::finish).get().isDone(), 1);
        due("two runs", Sorts.withRuns(6, false, "1/2").isDone(), 0);
        due("a merge", MERGING.get().isDone(), 0);
        due("behind the merge", Twins.after(MERGING, y -> y.step(5)).get().isDone(), 1);
        due("behind a cut", Twins.after(MERGING, y -> y.grant(2)).get().isDone(), 0);
    }

    private void promise15Parts() {
        holds("Promise 15", "int ofMerge(int part): Returns something about the merge.");
        holds("Promise 15", "part: 0 for the number of its inputs when it was begun, 1 for the number of inputs that"
            + " are not empty, 2 for the number of rows in the output, 3 for the number of rows in all inputs");
        holds("Promise 15", "Returns the number");
        GrantedSort x = MERGING.get();
        dueOfMerge("begun", x, 3, 3, 0, 5);
        x.step(1);
        dueOfMerge("one step", x, 3, 3, 1, 4);
        x.step(1);
        dueOfMerge("an input is empty", x, 3, 2, 2, 3);
        x.step(2);
        dueOfMerge("one row left", x, 3, 1, 4, 1);
        GrantedSort y = Sorts.withRuns(4, true, "5 6 / 5 / 5 7");
        y.merge();
        y.step(3);
        dueOfMerge("combined rows are one row of the output", y, 3, 2, 1, 2);
        GrantedSort z = Sorts.withRuns(9, false, "1/2/3/4/5/6/7/8/9");
        z.merge();
        dueOfMerge("eight inputs", z, 8, 8, 0, 8);
        z.step(8);
        z.merge();
        dueOfMerge("another merge", z, 2, 2, 0, 9);
    }

    private void dueOfMerge(String what, GrantedSort x, int... parts) {
        for (int part = 0; part <= 3; part++) {
            due(what + ", part " + part, x.ofMerge(part), parts[part]);
        }
    }

    private void promise15BadValueAndNone() {
        holds("Promise 15", "BAD_VALUE if part is out of range");
        due("one too small", MERGING.get().ofMerge(-1), BAD_VALUE);
        due("one too large", MERGING.get().ofMerge(4), BAD_VALUE);
        dueForAll("ofMerge", FAR, MERGING.get()::ofMerge, BAD_VALUE);
        due("without a merge", new GrantedSort().ofMerge(-1), BAD_VALUE);
        due("without a merge", new GrantedSort().ofMerge(4), BAD_VALUE);
        holds("Promise 15", "NONE if there is no merge.");
        dueOfMerge("new", new GrantedSort(), NONE, NONE, NONE, NONE);
        dueOfMerge("before a merge", THREE_RUNS.get(), NONE, NONE, NONE, NONE);
        dueOfMerge("over", Twins.after(MERGING, x -> x.step(5)).get(), NONE, NONE, NONE, NONE);
        dueOfMerge("cut short", Twins.after(MERGING, x -> x.grant(2)).get(), NONE, NONE, NONE, NONE);
        dueOfMerge("done", Twins.after(MERGING, GrantedSort::run).get(), NONE, NONE, NONE, NONE);
    }
}
