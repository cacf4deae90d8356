import java.util.ArrayList;
import java.util.List;
import java.util.function.ToIntFunction;

/** One call of each kind: of every method, with arguments inside, at the ends and outside of their ranges. */
final class Calls {
    /** A call of a method, and whether the document marks the method "Undoable." or says that it changes nothing. */
    record Call(String name, Kind kind, ToIntFunction<GrantedSort> function) {
        int of(GrantedSort x) {
            return function.applyAsInt(x);
        }
    }

    enum Kind { UNDOABLE, LOOK, OTHER }

    private interface WithNumber {
        int call(GrantedSort x, int number);
    }

    private final List<Call> calls = new ArrayList<>();

    static List<Call> all() {
        Calls c = new Calls();
        c.undoable();
        c.looks();
        c.others();
        return c.calls;
    }

    private void add(String name, Kind kind, ToIntFunction<GrantedSort> function) {
        calls.add(new Call(name, kind, function));
    }

    private void each(String name, Kind kind, WithNumber method, int... numbers) {
        for (int number : numbers) {
            add(name + "(" + number + ")", kind, x -> method.call(x, number));
        }
    }

    private void undoable() {
        each("add", Kind.UNDOABLE, GrantedSort::add, Integer.MIN_VALUE, -1, 0, 5, 999, 1000, Integer.MAX_VALUE);
        add("combine(true)", Kind.UNDOABLE, x -> x.combine(true));
        add("combine(false)", Kind.UNDOABLE, x -> x.combine(false));
        add("flush()", Kind.UNDOABLE, GrantedSort::flush);
        add("finish()", Kind.UNDOABLE, GrantedSort::finish);
        each("grant", Kind.UNDOABLE, GrantedSort::grant, Integer.MIN_VALUE, -1, 0, 1, 2, 3, 4, 6, 20, 21,
            Integer.MAX_VALUE);
        add("merge()", Kind.UNDOABLE, GrantedSort::merge);
        each("step", Kind.UNDOABLE, GrantedSort::step, Integer.MIN_VALUE, -1, 0, 1, 2, 200, 201, Integer.MAX_VALUE);
        add("run()", Kind.UNDOABLE, GrantedSort::run);
        add("read()", Kind.UNDOABLE, GrantedSort::read);
        add("restore()", Kind.UNDOABLE, GrantedSort::restore);
    }

    private void looks() {
        add("isCollecting()", Kind.LOOK, GrantedSort::isCollecting);
        each("memory", Kind.LOOK, GrantedSort::memory, -1, 0, 1, 2, 3);
        each("inMemory", Kind.LOOK, GrantedSort::inMemory, -1, 0, 1, 6, 20);
        add("isMerging()", Kind.LOOK, GrantedSort::isMerging);
        add("isDone()", Kind.LOOK, GrantedSort::isDone);
        each("ofMerge", Kind.LOOK, GrantedSort::ofMerge, -1, 0, 1, 2, 3, 4);
        add("runs()", Kind.LOOK, GrantedSort::runs);
        each("runAt", Kind.LOOK, GrantedSort::runAt, -1, 0, 1, 120);
        each("size", Kind.LOOK, GrantedSort::size, -1, 0, 5, 200);
        each("row(0, 0, ..)", Kind.LOOK, (x, part) -> x.row(0, 0, part), -1, 0, 1, 2, 3);
        each("row(5, .., 3)", Kind.LOOK, (x, index) -> x.row(5, index, 3), -1, 0, 1, 120);
        each("count", Kind.LOOK, GrantedSort::count, -1, 0, 1, 2, 3, 4, 5, 6, 7);
        each("rank", Kind.LOOK, GrantedSort::rank, -1, 0, 5, 999, 1000);
        each("costsWith", Kind.LOOK, GrantedSort::costsWith, 1, 2, 3, 20, 21);
        each("mergesWith", Kind.LOOK, GrantedSort::mergesWith, 1, 2, 3, 20, 21);
        add("bestSize()", Kind.LOOK, GrantedSort::bestSize);
        add("errorPosition()", Kind.LOOK, GrantedSort::errorPosition);
    }

    private void others() {
        each("append", Kind.OTHER, GrantedSort::append, Integer.MIN_VALUE, 32, 33, '0', '5', ',', 126, 127,
            Integer.MAX_VALUE);
        add("clearText()", Kind.OTHER, GrantedSort::clearText);
        add("save()", Kind.OTHER, GrantedSort::save);
        add("undo()", Kind.OTHER, GrantedSort::undo);
    }
}
