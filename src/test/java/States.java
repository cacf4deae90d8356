import java.util.LinkedHashMap;
import java.util.Map;
import java.util.function.Supplier;
import java.util.function.ToIntFunction;

/** States of a sort in which different calls are possible, each with a way to make it anew. */
final class States {
    private States() {
    }

    static Map<String, Supplier<GrantedSort>> all() {
        Map<String, Supplier<GrantedSort>> states = new LinkedHashMap<>();
        collecting(states);
        merging(states);
        texts(states);
        pasts(states);
        return states;
    }

    private static void collecting(Map<String, Supplier<GrantedSort>> states) {
        states.put("new", GrantedSort::new);
        states.put("rows in memory", () -> Sorts.withKeys(6, false, 5, 3, 5));
        states.put("a full memory", () -> Sorts.withKeys(2, false, 5, 3));
        states.put("combined rows", () -> Sorts.withKeys(3, true, 5, 3, 5, 9));
        states.put("a run, a row and one way", () -> Sorts.withKeys(2, false, 5, 3, 4));
        states.put("an empty memory behind a run", after(() -> Sorts.withKeys(6, false, 4, 2), GrantedSort::flush));
        states.put("a full memory of 20 rows", () -> Sorts.withKeys(20, false, 40, 38, 36, 34, 32, 30, 28, 26, 24, 22,
            20, 18, 16, 14, 12, 10, 8, 6, 4, 2));
        states.put("120 rows", () -> Sorts.withRows(6, 120));
        states.put("120 rows, the last one comes first", after(() -> Sorts.withText("1-119"), GrantedSort::read,
            x -> x.add(0)));
    }

    private static void merging(Map<String, Supplier<GrantedSort>> states) {
        states.put("finished with 120 rows", after(() -> Sorts.withRows(20, 120), GrantedSort::finish));
        states.put("finished without rows", after(GrantedSort::new, GrantedSort::finish));
        states.put("one run", () -> Sorts.withRuns(6, false, "3 1 2"));
        states.put("three runs and one way", () -> Sorts.withRuns(2, false, "1 / 2 / 3"));
        states.put("five runs", () -> Sorts.withRuns(4, false, "9 8 / 7 / 6 5 4 / 3 / 2 1"));
        states.put("a merge that is begun", merge("9 8 / 7 / 6 5 4 / 3 / 2 1", 0));
        states.put("a merge halfway", merge("9 8 / 7 / 6 5 4 / 3 / 2 1", 2));
        states.put("a merge with one input left, and one way", after(merge("1 2 3 / 4 5 9", 3), x -> x.grant(2)));
        states.put("the same and a run", after(merge("1 2 / 4 / 5 6 / 7 8 9", 3), x -> x.grant(2)));
        states.put("a merge that combines", combiningMerge());
        states.put("a merge that was cut short", after(combiningMerge(), x -> x.grant(3)));
        states.put("done", after(() -> Sorts.withKeys(3, true, 5, 3, 5, 9, 7, 5, 6), GrantedSort::run));
    }

    private static void texts(Map<String, Supplier<GrantedSort>> states) {
        Supplier<GrantedSort> text = () -> Sorts.withText("5x2,7-9");
        states.put("a text", text);
        states.put("a text behind finish()", after(text, GrantedSort::finish));
        states.put("no text", () -> Sorts.withText("5,"));
        states.put("no text behind finish()", after(() -> Sorts.withText("5;"), GrantedSort::finish));
        states.put("a full buffer", () -> Sorts.withText("10,".repeat(26) + "10"));
        states.put("a text and 120 rows", after(() -> Sorts.withRows(7, 120), x -> {
            Sorts.type(x, "3");
            return 0;
        }));
    }

    private static void pasts(Map<String, Supplier<GrantedSort>> states) {
        Supplier<GrantedSort> saved = after(() -> Sorts.withKeys(3, true, 5, 3), GrantedSort::save);
        states.put("a saved state", after(saved, x -> x.add(5)));
        states.put("a restored state", after(saved, GrantedSort::run, GrantedSort::restore));
        states.put("an undone call", after(() -> Sorts.withKeys(6, false, 4, 3, 2), GrantedSort::undo));
        states.put("one recorded state", after(GrantedSort::new, x -> x.add(5)));
        states.put("a merge in a saved state", after(merge("1 5 / 2 6 / 3", 2), GrantedSort::save, x -> x.step(9)));
    }

    private static Supplier<GrantedSort> merge(String runs, int steps) {
        Supplier<GrantedSort> begun = after(() -> Sorts.withRuns(4, false, runs), GrantedSort::merge);
        return steps == 0 ? begun : after(begun, x -> x.step(steps));
    }

    private static Supplier<GrantedSort> combiningMerge() {
        return after(() -> Sorts.withRuns(5, true, "5 6 / 5 6 / 5 8 / 5 6"), GrantedSort::merge, x -> x.step(2));
    }

    @SafeVarargs
    private static Supplier<GrantedSort> after(Supplier<GrantedSort> state, ToIntFunction<GrantedSort>... calls) {
        return Twins.after(state, calls);
    }
}
