import java.util.function.Supplier;
import java.util.function.ToIntFunction;

/** Tests that each hold one sentence of the document, or a part of one. */
abstract class SentenceGroup {
    static final int NO_SUCH = -1;
    static final int BAD_VALUE = -2;
    static final int NOT_POSSIBLE = -3;
    static final int LIMIT = -4;
    static final int BAD_TEXT = -5;
    static final int NONE = -6;

    /** Numbers that are far out of each range: an index or a bound made of them wraps around. */
    static final int[] FAR = {Integer.MIN_VALUE, Integer.MIN_VALUE + 1, -1000, 100_000, Integer.MAX_VALUE - 1,
        Integer.MAX_VALUE};

    /** The ways of a merge with a memory of 2, 3, .. 20 rows. */
    static final int[] WAYS = {1, 2, 3, 4, 5, 6, 7, 8, 8, 8, 8, 8, 8, 8, 8, 8, 8, 8, 8};

    private final Checks checks;
    private final Document document;
    private String test = "";

    SentenceGroup(Checks checks, Document document) {
        this.checks = checks;
        this.document = document;
    }

    abstract void all();

    /** Begins the test of a sentence, which stands in this section of the document with these words. */
    final void holds(String section, String words) {
        test = section + " \"" + words + "\"";
        checks.begin(test);
        checks.holds("the document says this", document.quote(section, words));
    }

    /** Sentences that need no test of their own. */
    final void noBoundary(String section, String... sentences) {
        checks.begin(section);
        for (String words : sentences) {
            checks.holds("the document says \"" + words + "\"", document.quote(section, words));
        }
    }

    final void due(String what, long got, long due) {
        checks.same(what, got, due);
    }

    final void due(String what, String got, String due) {
        checks.same(what, got, due);
    }

    final void dueForAll(String what, int[] arguments, Answer got, int due) {
        for (int argument : arguments) {
            due(what + "(" + argument + ")", got.to(argument), due);
        }
    }

    /** The call answers an error code, and a sort with it can't be told from one without it. */
    final void refused(String what, Supplier<GrantedSort> state, ToIntFunction<GrantedSort> call, int due) {
        due(what, call.applyAsInt(state.get()), due);
        due(what + ": what it leaves", Twins.whole(Twins.after(state, call)), Twins.whole(state));
    }

    /** The call answers this, and undo() makes the state from ahead of it current. */
    final void undoable(String what, Supplier<GrantedSort> state, ToIntFunction<GrantedSort> call, int due) {
        due(what, call.applyAsInt(state.get()), due);
        Supplier<GrantedSort> behind = Twins.after(state, call);
        int recorded = Twins.recorded(state.get());
        due(what + ": recorded states", Twins.recorded(behind.get()), Math.min(recorded + 1, 4));
        due(what + ": the state behind undo()", Twins.state(Twins.after(state, call, GrantedSort::undo)),
            Twins.state(state));
    }

    interface Answer {
        int to(int argument);
    }
}
