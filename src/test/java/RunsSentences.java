import java.util.function.Supplier;

/** Promises 16 to 21: runs, runAt, size, row, count and rank. */
final class RunsSentences extends SentenceGroup {
    private static final Supplier<GrantedSort> THREE_RUNS = () -> Sorts.withRuns(3, true, "7 3 7 / 5 / 9 1 0");

    RunsSentences(Checks checks, Document document) {
        super(checks, document);
    }

    @Override
    void all() {
        promise16();
        promise17Index();
        promise17NoSuch();
        promise18Size();
        promise18NoSuch();
        promise19Parts();
        promise19NoSuch();
        promise19BadValue();
        promise20Rows();
        promise20CostsMergesAndRuns();
        promise20BadValue();
        promise21Rank();
        promise21BadValue();
    }

    private void promise16() {
        holds("Promise 16", "int runs(): Returns the number of runs on the disk, without the inputs and the output of a"
            + " merge.");
        due("none", new GrantedSort().runs(), 0);
        due("a full memory is no run", Sorts.withKeys(2, false, 2, 1).runs(), 0);
        due("one", Sorts.withKeys(2, false, 3, 2, 1).runs(), 1);
        due("as many as rows", Sorts.withRunsOf(2, new int[120]).runs(), 120);
        GrantedSort x = THREE_RUNS.get();
        due("three", x.runs(), 3);
        x.merge();
        due("without the inputs", x.runs(), 1);
        x.step(1);
        due("without the output", x.runs(), 1);
        x.step(200);
        due("with the run of the output", x.runs(), 2);
        GrantedSort y = Sorts.withRuns(9, false, "1/2/3");
        y.merge();
        due("all are inputs", y.runs(), 0);
        y.grant(2);
        due("all are back", y.runs(), 3);
    }

    private void promise17Index() {
        holds("Promise 17", "int runAt(int index): Returns the number of a run.");
        holds("Promise 17", "index: 0 for the run with the lowest number");
        holds("Promise 17", "Returns the number of the run;");
        GrantedSort x = Sorts.withRuns(3, false, "9 8 7 / 6 / 5 / 4 3");
        due("the first", x.runAt(0), 0);
        due("the last", x.runAt(3), 3);
        x.merge();
        due("behind the inputs 1 and 2", x.runAt(1), 3);
        x.step(2);
        due("the output is the last", Sorts.runNumbers(x), "0 3 4");
        GrantedSort y = Sorts.withRunsOf(3, new int[120]);
        due("the first of 120", y.runAt(0), 0);
        due("the last of 120", y.runAt(119), 119);
        y.run();
        due("the last number of all", y.runAt(0), 238);
    }

    private void promise17NoSuch() {
        holds("Promise 17", "NO_SUCH if there is no such run.");
        due("no run", new GrantedSort().runAt(0), NO_SUCH);
        GrantedSort x = THREE_RUNS.get();
        due("one too small", x.runAt(-1), NO_SUCH);
        due("one too large", x.runAt(3), NO_SUCH);
        dueForAll("runAt", FAR, x::runAt, NO_SUCH);
        x.merge();
        due("one too large beside a merge", x.runAt(1), NO_SUCH);
        due("one too large for 120 runs", Sorts.withRunsOf(2, new int[120]).runAt(120), NO_SUCH);
        GrantedSort y = Sorts.withRuns(9, false, "1/2/3");
        y.merge();
        due("all are inputs", y.runAt(0), NO_SUCH);
    }

    private void promise18Size() {
        holds("Promise 18", "int size(int run): Returns the number of rows of a run.");
        holds("Promise 18", "run: number of the run");
        holds("Promise 18", "Returns the number of rows;");
        due("the least run", Sorts.withRunsOf(2, 5).size(0), 1);
        due("the greatest memory", Sorts.withRows(20, 21).size(0), 20);
        GrantedSort x = THREE_RUNS.get();
        due("combined rows are one row", x.size(0), 2);
        due("the last run", x.size(2), 3);
        x.run();
        due("a merged run", x.size(4), 6);
        GrantedSort y = Sorts.withRows(20, 120);
        y.run();
        due("all rows", y.size(6), 120);
    }

    private void promise18NoSuch() {
        holds("Promise 18", "NO_SUCH if there is no such run.");
        due("no run", new GrantedSort().size(0), NO_SUCH);
        GrantedSort x = THREE_RUNS.get();
        due("one too small", x.size(-1), NO_SUCH);
        due("one too large", x.size(3), NO_SUCH);
        dueForAll("size", FAR, x::size, NO_SUCH);
        x.merge();
        due("an input", x.size(1), NO_SUCH);
        due("the output", x.size(3), NO_SUCH);
        x.step(200);
        due("an input that there was", x.size(1), NO_SUCH);
        due("the next number", x.size(4), NO_SUCH);
        GrantedSort y = Sorts.withRuns(9, false, "1/2/3");
        y.merge();
        y.grant(3);
        due("an input that came back with another number", y.size(0), NO_SUCH);
        due("its new number", y.size(3), 1);
        due("one too large for 120 runs", Sorts.withRunsOf(2, new int[120]).size(120), NO_SUCH);
    }

    private void promise19Parts() {
        holds("Promise 19", "int row(int run, int index, int part): Returns something about a row of a run.");
        holds("Promise 19", "run: number of the run");
        holds("Promise 19", "index: 0 for its first row");
        holds("Promise 19", "part: 0 for the key, 1 for the number, 2 for the count");
        holds("Promise 19", "Returns the number;");
        GrantedSort x = Sorts.withRuns(3, true, "999 0 999 999 / 5 / 5 4");
        due("the first row: key", x.row(0, 0, 0), 0);
        due("the first row: number", x.row(0, 0, 1), 1);
        due("the first row: count", x.row(0, 0, 2), 1);
        due("the last row: key", x.row(0, 1, 0), 999);
        due("the last row: number", x.row(0, 1, 1), 0);
        due("the last row: count", x.row(0, 1, 2), 3);
        due("the last run", x.row(2, 1, 1), 5);
        x.run();
        due("combined by a merge: number", x.row(4, 2, 1), 4);
        due("combined by a merge: count", x.row(4, 2, 2), 2);
        due("the run", Sorts.disk(x), "4: 0#1*1 4#6*1 5#4*2 999#0*3");
        GrantedSort y = Sorts.withRows(20, 120);
        y.run();
        due("the last row of all", y.row(6, 119, 1), 119);
    }

    private void promise19NoSuch() {
        holds("Promise 19", "NO_SUCH if there is no such run or row");
        due("no run", new GrantedSort().row(0, 0, 0), NO_SUCH);
        GrantedSort x = THREE_RUNS.get();
        due("a run too small", x.row(-1, 0, 0), NO_SUCH);
        due("a run too large", x.row(3, 0, 0), NO_SUCH);
        due("an index too small", x.row(0, -1, 0), NO_SUCH);
        due("an index too large", x.row(0, 2, 0), NO_SUCH);
        dueForAll("row of the run", FAR, run -> x.row(run, 0, 0), NO_SUCH);
        dueForAll("row of the index", FAR, index -> x.row(0, index, 0), NO_SUCH);
        due("no such run, and no such part", x.row(3, 0, 3), NO_SUCH);
        due("no such row, and no such part", x.row(0, 2, -1), NO_SUCH);
        x.merge();
        due("a row of an input", x.row(0, 0, 0), NO_SUCH);
        x.step(1);
        due("a row of the output", x.row(3, 0, 0), NO_SUCH);
        x.grant(2);
        due("the output behind a cut has one row", x.row(3, 1, 0), NO_SUCH);
        GrantedSort y = Sorts.withRows(20, 120);
        y.run();
        due("one row too many", y.row(6, 120, 0), NO_SUCH);
    }

    private void promise19BadValue() {
        holds("Promise 19", "BAD_VALUE if part is out of range.");
        GrantedSort x = THREE_RUNS.get();
        due("one too small", x.row(0, 0, -1), BAD_VALUE);
        due("one too large", x.row(0, 0, 3), BAD_VALUE);
        due("of the last row", x.row(2, 2, 3), BAD_VALUE);
        dueForAll("row with the part", FAR, part -> x.row(0, 1, part), BAD_VALUE);
    }

    private void promise20Rows() {
        holds("Promise 20", "int count(int what): Returns a number of the whole sort.");
        holds("Promise 20", "what: 0 for the rows that were added; 1 for rows in memory, in runs, in inputs and in the"
            + " output together; 2 for the sum of the counts of these rows;");
        GrantedSort x = new GrantedSort();
        dueCounts("new", x, 0, 0, 0);
        x.combine(true);
        x.add(5);
        x.add(5);
        x.add(999);
        dueCounts("in memory", x, 3, 2, 3);
        x.flush();
        x.add(0);
        x.add(5);
        x.add(998);
        dueCounts("in memory and in a run", x, 6, 5, 6);
        x.flush();
        x.add(999);
        x.add(8);
        x.add(8);
        x.add(6);
        x.finish();
        dueCounts("in runs", x, 10, 8, 10);
        x.grant(3);
        x.merge();
        dueCounts("in inputs and a run", x, 10, 8, 10);
        x.step(2);
        dueCounts("in inputs, the output and a run", x, 10, 8, 10);
        x.step(1);
        dueCounts("a row of an input is combined", x, 10, 7, 10);
        due("cut short", x.grant(2), 3);
        dueCounts("cut short", x, 10, 7, 10);
        x.grant(20);
        x.run();
        dueCounts("done", x, 10, 6, 10);
        GrantedSort y = Sorts.withRows(2, 120);
        dueCounts("as many as there can be", y, 120, 120, 120);
    }

    private void dueCounts(String what, GrantedSort x, int added, int rows, int counts) {
        due(what + ": rows added", x.count(0), added);
        due(what + ": rows", x.count(1), rows);
        due(what + ": counts", x.count(2), counts);
    }

    private void promise20CostsMergesAndRuns() {
        holds("Promise 20", "3 for the costs so far; 4 for the merges that were begun so far; 5 for the merges that"
            + " were cut short so far; 6 for the runs that were numbered so far");
        holds("Promise 20", "Returns the number;");
        GrantedSort x = Sorts.withRuns(4, false, "1 6 / 2 5 / 3 4 / 7 8 9");
        dueWork("no merge", x, 9, 0, 0, 4);
        x.merge();
        dueWork("begun", x, 9, 1, 0, 4);
        x.step(3);
        dueWork("three steps", x, 15, 1, 0, 4);
        x.grant(3);
        dueWork("cut short: 1 2 3, 6, 5 and 4", x, 15, 1, 1, 8);
        x.undo();
        dueWork("undone", x, 15, 1, 0, 4);
        x.step(3);
        dueWork("over", x, 21, 1, 0, 5);
        x.run();
        dueWork("done", x, 21 + 18, 2, 0, 6);
        dueWork("new", new GrantedSort(), 0, 0, 0, 0);
    }

    private void dueWork(String what, GrantedSort x, int costs, int begun, int cut, int numbered) {
        due(what + ": costs", x.count(3), costs);
        due(what + ": merges", x.count(4), begun);
        due(what + ": merges that were cut short", x.count(5), cut);
        due(what + ": runs", x.count(6), numbered);
    }

    private void promise20BadValue() {
        holds("Promise 20", "BAD_VALUE if what is out of range.");
        GrantedSort x = THREE_RUNS.get();
        due("one too small", x.count(-1), BAD_VALUE);
        due("one too large", x.count(7), BAD_VALUE);
        dueForAll("count", FAR, x::count, BAD_VALUE);
    }

    private void promise21Rank() {
        holds("Promise 21", "int rank(int key): Finds the rank of a key: how many of the rows that there are (of"
            + " memory, runs, inputs and output) have a lower key, each one counted as often as its count.");
        holds("Promise 21", "key: 0 to 999");
        holds("Promise 21", "Returns the number;");
        due("no rows", new GrantedSort().rank(999), 0);
        GrantedSort x = Sorts.withKeys(6, true, 0, 5, 5, 999);
        due("the least key has none below it", x.rank(0), 0);
        due("above the least key", x.rank(1), 1);
        due("an equal key is not lower", x.rank(5), 1);
        due("as often as its count", x.rank(6), 3);
        due("the greatest key is not below itself", x.rank(999), 3);
        x.flush();
        x.add(5);
        x.add(7);
        due("of a run and of memory", x.rank(8), 5);
        x.flush();
        x.add(1);
        x.add(2);
        x.add(3);
        x.finish();
        x.grant(3);
        x.merge();
        due("of a run and of inputs", x.rank(8), 8);
        x.step(2);
        due("of inputs and of the output", x.rank(5), 4);
        x.step(1);
        due("combined rows are counted all the same", x.rank(6), 7);
        x.grant(2);
        due("cut short", x.rank(999), 8);
        due("as many as there can be", Sorts.withRows(20, 120).rank(120), 120);
    }

    private void promise21BadValue() {
        holds("Promise 21", "BAD_VALUE if key is out of range.");
        GrantedSort x = THREE_RUNS.get();
        due("one too small", x.rank(-1), BAD_VALUE);
        due("one too large", x.rank(1000), BAD_VALUE);
        dueForAll("rank", FAR, x::rank, BAD_VALUE);
    }
}
