import java.util.Map;
import java.util.function.Supplier;

/** Of "Terms": undo, the constants and the groups of calls; and promises 29 to 31: undo, save and restore. */
final class PastSentences extends SentenceGroup {
    PastSentences(Checks checks, Document document) {
        super(checks, document);
    }

    @Override
    void all() {
        withoutBoundary();
        constants();
        whatIsRecorded();
        whatMakesNoDifference();
        atMost4States();
        whatTheStateIs();
        stateOf120Rows();
        stateOf120Runs();
        promise29Latest();
        promise29NotPossible();
        promise30();
        promise31();
        promise31NotPossible();
    }

    private void withoutBoundary() {
        noBoundary("Terms", "Undo.", "The constants:");
        String[] calls = {"add, combine, flush, finish, isCollecting the interface says: ---- collecting.",
            "grant, memory, inMemory the interface says: ---- memory.",
            "merge, step, run, isMerging, isDone, ofMerge the interface says: ---- merging.",
            "runs, runAt, size, row, count, rank the interface says: ---- runs and rows.",
            "append, clearText, errorPosition, read the interface says: ---- texts.",
            "undo, save, restore the interface says: ---- undo, saved state."};
        for (String group : calls) {
            noBoundary("Terms", "Ahead of the calls " + group);
        }
    }

    private void constants() {
        holds("Terms", "NO_SUCH = -1: There is no such run or row.");
        due("NO_SUCH", GrantedSort.NO_SUCH, -1);
        holds("Terms", "BAD_VALUE = -2: An argument is out of its range.");
        due("BAD_VALUE", GrantedSort.BAD_VALUE, -2);
        holds("Terms", "NOT_POSSIBLE = -3: The call is not possible in the current state.");
        due("NOT_POSSIBLE", GrantedSort.NOT_POSSIBLE, -3);
        holds("Terms", "LIMIT = -4: There is no room for another row or character.");
        due("LIMIT", GrantedSort.LIMIT, -4);
        due("a row", Sorts.withRows(6, 120).add(5), -4);
        due("a character", States.all().get("a full buffer").get().append('5'), -4);
        holds("Terms", "BAD_TEXT = -5: The buffer does not contain a text.");
        due("BAD_TEXT", GrantedSort.BAD_TEXT, -5);
        holds("Terms", "NONE = -6: There is no such result.");
        due("NONE", GrantedSort.NONE, -6);
    }

    private void whatIsRecorded() {
        holds("Terms", "The methods that are marked \"Undoable.\" record the state that was current ahead of the call,"
            + " if they return no error code (also if the call makes no difference).");
        for (Map.Entry<String, Supplier<GrantedSort>> state : States.all().entrySet()) {
            for (Calls.Call call : Calls.all()) {
                String what = call.name() + " with " + state.getKey();
                int answer = call.of(state.getValue().get());
                boolean isError = answer < 0 && answer != NONE;
                if (call.kind() == Calls.Kind.UNDOABLE && !isError) {
                    undoable(what, state.getValue(), call::of, answer);
                    dueOlderStates(what, state.getValue(), call);
                } else if (!call.name().equals("undo()")) {
                    due(what + ": recorded states", Twins.past(Twins.after(state.getValue(), call::of)),
                        Twins.past(state.getValue()));
                }
            }
        }
    }

    /** Behind the call and undo(), the recorded states are those from ahead of the call, up to the latest three. */
    private void dueOlderStates(String what, Supplier<GrantedSort> state, Calls.Call call) {
        Supplier<GrantedSort> undone = Twins.after(state, call::of, GrantedSort::undo);
        String older = Twins.past(state);
        int fourth = older.indexOf("\n undone 4");
        due(what + ": older states", Twins.past(undone), fourth < 0 ? older : older.substring(0, fourth));
    }

    private void whatMakesNoDifference() {
        holds("Terms", "(also if the call makes no difference)");
        undoable("combine", GrantedSort::new, x -> x.combine(false), 0);
        undoable("flush", GrantedSort::new, GrantedSort::flush, NONE);
        undoable("grant", GrantedSort::new, x -> x.grant(6), 0);
        undoable("run", States.all().get("done"), GrantedSort::run, 0);
        undoable("read", States.all().get("a text and 120 rows"), GrantedSort::read, 0);
        undoable("restore", Twins.after(GrantedSort::new, GrantedSort::save), GrantedSort::restore, 0);
        holds("Terms", "if they return no error code");
        GrantedSort x = new GrantedSort();
        x.add(1000);
        x.grant(1);
        x.merge();
        x.step(1);
        x.step(0);
        x.read();
        x.restore();
        due("refused calls", x.undo(), NOT_POSSIBLE);
        x.finish();
        x.add(5);
        x.flush();
        x.finish();
        due("refused calls behind finish", x.undo(), 0);
        due("finish is undone", x.isCollecting(), 1);
    }

    private void atMost4States() {
        holds("Terms", "At most 4 states are kept; when a fifth one is recorded, the oldest one is discarded.");
        for (int recorded = 0; recorded <= 12; recorded++) {
            GrantedSort x = new GrantedSort();
            for (int size = 0; size < recorded; size++) {
                x.grant(8 + size);
            }
            int kept = Math.min(recorded, 4);
            for (int back = 1; back <= kept; back++) {
                due(recorded + " recorded: left", x.undo(), kept - back);
                due(recorded + " recorded: size", x.memory(0), recorded == back ? 6 : 7 + recorded - back);
            }
            due(recorded + " recorded: none is left", x.undo(), NOT_POSSIBLE);
            due("the oldest state stays current", x.memory(0), recorded <= 4 ? 6 : 3 + recorded);
        }
        GrantedSort x = new GrantedSort();
        for (int round = 0; round < 9; round++) {
            x.add(round);
            x.add(100 + round);
            x.add(200 + round);
            x.undo();
            due("rows", x.count(0), 2 * round + 2);
        }
        for (int left = 2; left >= 0; left--) {
            due("undo", x.undo(), left);
            due("rows", x.count(0), 15 + left);
        }
        due("none is left", x.undo(), NOT_POSSIBLE);
    }

    private void whatTheStateIs() {
        holds("Terms", "The state is everything except the buffer, the saved state of save() and the recorded states.");
        GrantedSort x = Sorts.withKeys(4, true);
        x.combine(false);
        x.undo();
        due("the combining mode", x.combine(true), 1);
        Supplier<GrantedSort> before = States.all().get("a merge that combines");
        String state = Twins.state(before);
        due("everything else, undone", Twins.state(Twins.after(before, y -> y.grant(3), GrantedSort::run,
            GrantedSort::undo, GrantedSort::undo)), state);
        due("everything else, restored", Twins.state(Twins.after(before, GrantedSort::save, y -> y.grant(3),
            GrantedSort::run, GrantedSort::restore)), state);
        GrantedSort y = Sorts.withText("5");
        y.add(1);
        y.append('7');
        y.save();
        y.add(2);
        y.append('8');
        due("undo", y.undo(), 1);
        due("the buffer stays", y.clearText(), 3);
        y.undo();
        due("no row is left", y.count(0), 0);
        due("the saved state stays", y.restore(), 1);
        due("the recorded states stay", y.undo(), 0);
        GrantedSort z = Sorts.withKeys(6, false, 1, 2);
        z.save();
        z.undo();
        z.undo();
        z.undo();
        Sorts.type(z, "9-11");
        due("restore", z.restore(), 2);
        due("recorded: what was left, and one more", z.undo(), 1);
        due("the buffer stays", z.read(), 3);
    }

    private void stateOf120Rows() {
        holds("Terms", "The state is everything except the buffer, the saved state of save() and the recorded states.");
        GrantedSort x = Sorts.withKeys(6, true);
        Sorts.type(x, "1-119");
        x.read();
        x.add(0);
        x.flush();
        x.save();
        String run = Sorts.run(x, 19);
        due("the run with the 120th row", run, "0#119*1 115#114*1 116#115*1 117#116*1 118#117*1 119#118*1");
        x.undo();
        x.undo();
        x.add(118);
        due("the 120th row is combined", x.count(1), 119);
        x.flush();
        due("another run", Sorts.run(x, 19), "115#114*1 116#115*1 117#116*1 118#117*2 119#118*1");
        x.restore();
        due("the run behind restore()", Sorts.run(x, 19), run);
        due("rows", x.count(1), 120);
        x.undo();
        x.undo();
        x.undo();
        x.add(999);
        x.flush();
        due("a third run", Sorts.run(x, 19), "115#114*1 116#115*1 117#116*1 118#117*1 119#118*1 999#119*1");
        x.restore();
        due("the run behind restore()", Sorts.run(x, 19), run);
        due("rank of the 120 rows", x.rank(999), 120);
    }

    private void stateOf120Runs() {
        holds("Terms", "The state is everything except the buffer, the saved state of save() and the recorded states.");
        GrantedSort x = Sorts.withRunsOf(9, new int[120]);
        x.merge();
        x.grant(2);
        due("the last run is another one", x.runAt(119), 127);
        due("its row", x.row(127, 0, 1), 7);
        x.undo();
        x.undo();
        due("the last run behind undo()", x.runAt(119), 119);
        due("its row", x.row(119, 0, 1), 119);
        due("the first run behind undo()", x.row(0, 0, 1), 0);
    }

    private void promise29Latest() {
        holds("Promise 29", "int undo(): Makes the latest recorded state current and discards it from the recorded"
            + " states.");
        holds("Promise 29", "Returns the number of recorded states that remain;");
        GrantedSort x = new GrantedSort();
        x.add(3);
        due("the only one", x.undo(), 0);
        due("rows", x.count(0), 0);
        x.add(4);
        x.grant(2);
        x.add(5);
        x.finish();
        due("the latest of four", x.undo(), 3);
        due("collecting", x.isCollecting(), 1);
        due("the third", x.undo(), 2);
        due("rows", x.count(0), 1);
        x.add(6);
        due("recorded in its place", x.undo(), 2);
        due("the second", x.undo(), 1);
        due("size", x.memory(0), 6);
        due("the first", x.undo(), 0);
        due("rows", x.count(0), 0);
    }

    private void promise29NotPossible() {
        holds("Promise 29", "NOT_POSSIBLE if there is none.");
        refused("new", GrantedSort::new, GrantedSort::undo, NOT_POSSIBLE);
        refused("all are undone", Twins.after(GrantedSort::new, x -> x.add(5), GrantedSort::undo), GrantedSort::undo,
            NOT_POSSIBLE);
        refused("save() records none", Twins.after(GrantedSort::new, GrantedSort::save), GrantedSort::undo,
            NOT_POSSIBLE);
        refused("a buffer is not recorded", () -> Sorts.withText("5,4"), GrantedSort::undo, NOT_POSSIBLE);
        GrantedSort x = Sorts.withKeys(6, false, 1, 2, 3, 4, 5);
        for (int left = 3; left >= 0; left--) {
            due("undo", x.undo(), left);
        }
        due("four are undone", x.undo(), NOT_POSSIBLE);
        due("rows", x.count(0), 1);
    }

    private void promise30() {
        holds("Promise 30", "int save(): Saves the state and overwrites the state that was saved before.");
        holds("Promise 30", "Returns the number of rows that were added.");
        GrantedSort x = new GrantedSort();
        due("no rows", x.save(), 0);
        x.add(1);
        due("one row", x.save(), 1);
        x.add(2);
        due("the state of the second save()", x.restore(), 1);
        due("all rows", Sorts.withRows(6, 120).save(), 120);
        due("rows that are combined were added too", Sorts.withKeys(6, true, 5, 5, 5).save(), 3);
        due("rows behind a merge that combines", States.all().get("a merge that combines").get().save(), 8);
        due("behind undo", Twins.after(() -> Sorts.withKeys(6, false, 1, 2), GrantedSort::undo).get().save(), 1);
        for (Map.Entry<String, Supplier<GrantedSort>> state : States.all().entrySet()) {
            Supplier<GrantedSort> saved = Twins.after(state.getValue(), GrantedSort::save);
            due("the state itself, with " + state.getKey(), Twins.state(saved), Twins.state(state.getValue()));
            due("the saved state, with " + state.getKey(), Twins.saved(saved),
                state.getValue().get().count(0) + " " + Twins.state(state.getValue()));
        }
    }

    private void promise31() {
        holds("Promise 31", "int restore(): Makes the saved state current; it remains saved. Undoable.");
        holds("Promise 31", "Returns the number of rows that were added then;");
        Supplier<GrantedSort> saved = Twins.after(() -> Sorts.withKeys(3, true, 5, 3), GrantedSort::save);
        undoable("behind a row", Twins.after(saved, x -> x.add(5)), GrantedSort::restore, 2);
        undoable("behind run", Twins.after(saved, GrantedSort::run), GrantedSort::restore, 2);
        undoable("at once", saved, GrantedSort::restore, 2);
        GrantedSort x = saved.get();
        for (int time = 0; time < 9; time++) {
            x.add(time + 10);
            x.add(time + 10);
            x.flush();
            due("it remains saved", x.restore(), 2);
            due("rows in memory", Sorts.memory(x), "5 3");
            due("runs", x.runs(), 0);
        }
        x.undo();
        due("it remains saved behind undo", x.restore(), 2);
        x.grant(6);
        x.run();
        due("it remains saved behind run", x.restore(), 2);
        GrantedSort y = new GrantedSort();
        y.save();
        y.add(7);
        due("no rows then", y.restore(), 0);
        due("no rows now", y.count(0), 0);
        due("the next row is the first one again", y.add(7), 0);
        GrantedSort z = Sorts.withRows(6, 120);
        z.save();
        due("120 rows", z.restore(), 120);
    }

    private void promise31NotPossible() {
        holds("Promise 31", "NOT_POSSIBLE if no state was saved.");
        refused("new", GrantedSort::new, GrantedSort::restore, NOT_POSSIBLE);
        refused("rows", () -> Sorts.withKeys(6, false, 1, 2), GrantedSort::restore, NOT_POSSIBLE);
        refused("in a merge", States.all().get("a merge halfway"), GrantedSort::restore, NOT_POSSIBLE);
        due("a state without rows was saved", Twins.after(GrantedSort::new, GrantedSort::save).get().restore(), 0);
    }
}
