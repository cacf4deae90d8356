import java.util.function.Supplier;
import java.util.function.ToIntFunction;

/**
 * Tells sorts apart by all that they answer. A sort is made anew for each look at it, because nothing is
 * promised about an object after its 512th call.
 */
final class Twins {
    // Of more rows than this, only the first and the last one of each run are looked at.
    private static final int ROWS = 24;

    private Twins() {
    }

    @SafeVarargs
    static Supplier<GrantedSort> after(Supplier<GrantedSort> state, ToIntFunction<GrantedSort>... calls) {
        return () -> {
            GrantedSort x = state.get();
            for (ToIntFunction<GrantedSort> call : calls) {
                call.applyAsInt(x);
            }
            return x;
        };
    }

    /** The answers of the methods that change nothing, but for the buffer's. */
    static String now(GrantedSort x) {
        StringBuilder text = new StringBuilder();
        text.append(x.isCollecting()).append(x.isMerging()).append(x.isDone()).append(" memory");
        for (int part = 0; part <= 2; part++) {
            text.append(' ').append(x.memory(part));
        }
        text.append(" holds ").append(Sorts.memory(x)).append(" merge");
        for (int part = 0; part <= 3; part++) {
            text.append(' ').append(x.ofMerge(part));
        }
        text.append(" counts");
        for (int what = 0; what <= 6; what++) {
            text.append(' ').append(x.count(what));
        }
        text.append(" rank ").append(x.rank(6)).append(' ').append(x.rank(999));
        text.append(" foretold ").append(x.costsWith(2)).append(' ').append(x.costsWith(4));
        text.append(' ').append(x.mergesWith(3)).append(' ').append(x.bestSize());
        text.append(" disk ").append(x.count(1) <= ROWS ? Sorts.disk(x) : ends(x));
        return text.toString();
    }

    private static String ends(GrantedSort x) {
        StringBuilder text = new StringBuilder();
        int runs = x.runs();
        for (int i = 0; i < runs; i++) {
            int run = x.runAt(i);
            int rows = x.size(run);
            text.append(run).append(": ").append(x.row(run, 0, 1)).append(" to ").append(x.row(run, rows - 1, 1));
            text.append(" of ").append(rows).append(" / ");
        }
        return text.toString();
    }

    /** What comes of the rows that now() does not show: those in memory, in inputs and in the output. */
    private static String later(GrantedSort x) {
        StringBuilder text = new StringBuilder();
        text.append(x.combine(true)).append(' ').append(x.add(5)).append(' ').append(x.add(5));
        text.append(' ').append(x.grant(20)).append(' ').append(x.run());
        return text.append(' ').append(now(x)).toString();
    }

    /** The state, as the document means it: without the buffer, the saved state and the recorded states. */
    static String state(Supplier<GrantedSort> made) {
        return now(made.get()) + "\n later " + later(made.get());
    }

    static int recorded(GrantedSort x) {
        int states = 0;
        while (states < 9 && x.undo() != GrantedSort.NOT_POSSIBLE) {
            states++;
        }
        return states;
    }

    /** The recorded states, the latest one first. */
    static String past(Supplier<GrantedSort> made) {
        StringBuilder text = new StringBuilder();
        int states = recorded(made.get());
        for (int back = 1; back <= states; back++) {
            GrantedSort x = made.get();
            for (int i = 0; i < back; i++) {
                x.undo();
            }
            text.append("\n undone ").append(back).append(": ").append(now(x));
        }
        return text.toString();
    }

    static String saved(Supplier<GrantedSort> made) {
        Supplier<GrantedSort> restored = after(made, GrantedSort::restore);
        return made.get().restore() + " " + state(restored);
    }

    static String buffer(Supplier<GrantedSort> made) {
        GrantedSort x = made.get();
        GrantedSort y = made.get();
        return x.errorPosition() + " " + x.clearText() + " " + y.read() + " " + now(y);
    }

    static String whole(Supplier<GrantedSort> made) {
        return state(made) + past(made) + "\n saved " + saved(made) + "\n buffer " + buffer(made);
    }
}
