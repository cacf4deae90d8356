import java.util.Map;
import java.util.function.Supplier;

/** Promises 22 to 24: costsWith, mergesWith and bestSize. */
final class PredictionSentences extends SentenceGroup {
    /** Runs of 3, 3, 3 and 1 rows, the last of them in memory. */
    private static final Supplier<GrantedSort> COLLECTING =
        () -> Sorts.withKeys(3, false, 9, 8, 7, 6, 5, 4, 3, 2, 1, 0);

    PredictionSentences(Checks checks, Document document) {
        super(checks, document);
    }

    @Override
    void all() {
        predictionsChangeNothing();
        promise22Costs();
        promise22LikeGrantAndRun();
        promise22BadValue();
        promise22NotPossible();
        promise23Merges();
        promise23BadValue();
        promise23NotPossible();
        promise24Best();
        promise24OfSeveralTheLeast();
    }

    private void predictionsChangeNothing() {
        holds("Terms", "Ahead of the calls costsWith, mergesWith, bestSize the interface says: ----"
            + " predictions; they change nothing.");
        for (Map.Entry<String, Supplier<GrantedSort>> state : States.all().entrySet()) {
            String before = Twins.whole(state.getValue());
            for (Calls.Call call : Calls.all()) {
                if (call.kind() == Calls.Kind.LOOK) {
                    due(call.name() + " with " + state.getKey(),
                        Twins.whole(Twins.after(state.getValue(), call::of)), before);
                }
            }
        }
    }

    private void promise22Costs() {
        holds("Promise 22", "int costsWith(int size): Predicts the costs that run() would still have.");
        holds("Promise 22", "size: the size of the memory from now on, 2 to 20");
        holds("Promise 22", "Returns the costs of grant() of this size and of run() behind it, together;");
        due("no rows, the least size", new GrantedSort().costsWith(2), 0);
        due("no rows, the greatest size", new GrantedSort().costsWith(20), 0);
        due("rows in memory are written", Sorts.withKeys(6, false, 2, 1).costsWith(6), 2);
        due("they are written by grant() already", Sorts.withKeys(6, false, 3, 2, 1).costsWith(2), 3);
        due("a run is written already", Sorts.withRuns(6, false, "1 2 3").costsWith(2), 0);
        GrantedSort x = COLLECTING.get();
        due("two ways", x.costsWith(3), 1 + 2 * (4 + 6 + 10));
        due("three ways", x.costsWith(4), 1 + 2 * (7 + 10));
        due("four ways", x.costsWith(5), 1 + 2 * 10);
        due("the greatest size", x.costsWith(20), 1 + 2 * 10);
        GrantedSort y = Sorts.withRuns(4, false, "1/2/3");
        y.merge();
        due("the merge goes on", y.costsWith(4), 6);
        due("the merge is cut short", y.costsWith(3), 2 * (2 + 3));
        y.step(1);
        due("without the costs so far", y.costsWith(4), 4);
        due("room for two inputs", y.costsWith(3), 4);
        due("done", Twins.after(COLLECTING, GrantedSort::run).get().costsWith(2), 0);
        due("rows that are combined cost 1", Sorts.withRuns(4, true, "5/5/5").costsWith(4), 2 + 1 + 1);
    }

    private void promise22LikeGrantAndRun() {
        holds("Promise 22", "Returns the costs of grant() of this size and of run() behind it, together;");
        for (Map.Entry<String, Supplier<GrantedSort>> state : States.all().entrySet()) {
            GrantedSort foretelling = state.getValue().get();
            for (int size = 2; size <= 20; size++) {
                GrantedSort x = state.getValue().get();
                int before = x.count(3);
                x.grant(size);
                int merges = x.run();
                int costs = merges == NOT_POSSIBLE ? NOT_POSSIBLE : x.count(3) - before;
                due(state.getKey() + ", costs with " + size, foretelling.costsWith(size), costs);
                due(state.getKey() + ", merges with " + size, foretelling.mergesWith(size), merges);
            }
        }
    }

    private void promise22BadValue() {
        holds("Promise 22", "BAD_VALUE if size is out of range");
        due("one too small", COLLECTING.get().costsWith(1), BAD_VALUE);
        due("one too large", COLLECTING.get().costsWith(21), BAD_VALUE);
        dueForAll("costsWith", FAR, COLLECTING.get()::costsWith, BAD_VALUE);
        due("one too small without rows", new GrantedSort().costsWith(1), BAD_VALUE);
        due("one too large without rows", new GrantedSort().costsWith(21), BAD_VALUE);
    }

    private void promise22NotPossible() {
        holds("Promise 22", "NOT_POSSIBLE if run() would return NOT_POSSIBLE then.");
        refused("three runs and a row", COLLECTING, x -> x.costsWith(2), NOT_POSSIBLE);
        refused("two runs", () -> Sorts.withRuns(20, false, "1/2"), x -> x.costsWith(2), NOT_POSSIBLE);
        due("two runs, one way more", Sorts.withRuns(2, false, "1/2").costsWith(3), 4);
        GrantedSort x = Sorts.withKeys(3, false, 1, 2, 3, 4, 5);
        due("grant() and finish() would write", x.costsWith(2), NOT_POSSIBLE);
        due("the size that it has", x.costsWith(3), 2 + 2 * 5);
        GrantedSort y = Sorts.withRuns(4, false, "1/2/3");
        y.merge();
        y.step(1);
        due("the merge would be cut short", y.costsWith(2), NOT_POSSIBLE);
        y.step(1);
        due("one input is left", y.costsWith(2), 2);
        due("one input and a run are left", States.all().get("the same and a run").get().costsWith(2), NOT_POSSIBLE);
    }

    private void promise23Merges() {
        holds("Promise 23", "int mergesWith(int size): Predicts the number of merges that run() would begin behind"
            + " grant().");
        holds("Promise 23", "size: the size of the memory from now on, 2 to 20");
        holds("Promise 23", "Returns the number;");
        due("no rows, the least size", new GrantedSort().mergesWith(2), 0);
        due("no rows, the greatest size", new GrantedSort().mergesWith(20), 0);
        due("rows in memory", Sorts.withKeys(6, false, 2, 1).mergesWith(6), 0);
        GrantedSort x = COLLECTING.get();
        due("two ways", x.mergesWith(3), 3);
        due("three ways", x.mergesWith(4), 2);
        due("four ways", x.mergesWith(5), 1);
        due("the greatest size", x.mergesWith(20), 1);
        GrantedSort y = Sorts.withRuns(4, false, "1/2/3");
        y.merge();
        due("the merge that there is does not count", y.mergesWith(4), 0);
        due("it is cut short", y.mergesWith(3), 2);
        due("all rows, two ways", Sorts.withRunsOf(2, new int[120]).mergesWith(3), 119);
    }

    private void promise23BadValue() {
        holds("Promise 23", "BAD_VALUE if size is out of range");
        due("one too small", COLLECTING.get().mergesWith(1), BAD_VALUE);
        due("one too large", COLLECTING.get().mergesWith(21), BAD_VALUE);
        dueForAll("mergesWith", FAR, COLLECTING.get()::mergesWith, BAD_VALUE);
        due("one too small without rows", new GrantedSort().mergesWith(1), BAD_VALUE);
        due("one too large without rows", new GrantedSort().mergesWith(21), BAD_VALUE);
    }

    private void promise23NotPossible() {
        holds("Promise 23", "NOT_POSSIBLE if run() would return NOT_POSSIBLE then.");
        refused("three runs and a row", COLLECTING, x -> x.mergesWith(2), NOT_POSSIBLE);
        refused("two runs", () -> Sorts.withRuns(20, false, "1/2"), x -> x.mergesWith(2), NOT_POSSIBLE);
        due("two runs, one way more", Sorts.withRuns(2, false, "1/2").mergesWith(3), 1);
        due("one run", Sorts.withRuns(20, false, "1 2").mergesWith(2), 0);
        due("one input left", States.all().get("a merge with one input left, and one way").get().mergesWith(2), 0);
        due("one input and a run are left", States.all().get("the same and a run").get().mergesWith(2), NOT_POSSIBLE);
    }

    private void promise24Best() {
        holds("Promise 24", "int bestSize(): Finds the size of the memory with which grant() and run() behind it would"
            + " have the least costs;");
        for (Map.Entry<String, Supplier<GrantedSort>> state : States.all().entrySet()) {
            due(state.getKey(), state.getValue().get().bestSize(), leastOfTheBest(state.getValue().get()));
        }
        for (int runs = 1; runs <= 40; runs++) {
            due(runs + " runs", Sorts.withRunsOf(2, new int[runs]).bestSize(),
                leastOfTheBest(Sorts.withRunsOf(2, new int[runs])));
        }
        due("nine runs: five of them first are less than eight", Sorts.withRunsOf(2, new int[9]).bestSize(), 6);
        due("64 runs: eight ways, two passes", Sorts.withRunsOf(3, new int[64]).bestSize(), 9);
    }

    private static int leastOfTheBest(GrantedSort x) {
        int best = 0;
        int least = Integer.MAX_VALUE;
        for (int size = 2; size <= 20; size++) {
            int costs = x.costsWith(size);
            if (costs != NOT_POSSIBLE && costs < least) {
                best = size;
                least = costs;
            }
        }
        return best;
    }

    private void promise24OfSeveralTheLeast() {
        holds("Promise 24", "of several the least one.");
        holds("Promise 24", "Returns the size, 2 to 20.");
        due("no rows: all sizes cost nothing", new GrantedSort().bestSize(), 2);
        due("one run: all sizes cost nothing", Sorts.withRuns(20, false, "1 2 3").bestSize(), 2);
        due("rows in memory: all sizes cost the same", Sorts.withRows(20, 20).bestSize(), 2);
        due("two runs: 2 is not possible", Sorts.withRuns(2, false, "1/2").bestSize(), 3);
        due("three runs at once", Sorts.withRuns(20, false, "1/2/3").bestSize(), 4);
        due("eight runs at once", Sorts.withRunsOf(20, new int[8]).bestSize(), 9);
        due("120 runs", Sorts.withRunsOf(2, new int[120]).bestSize(), 9);
        GrantedSort x = Sorts.withRuns(4, false, "1/2/3");
        x.merge();
        due("a merge that is not to be cut short", x.bestSize(), 4);
        x.step(2);
        due("a merge with one input left", x.bestSize(), 2);
    }
}
