import java.util.ArrayList;
import java.util.Comparator;
import java.util.List;

/** The document once more, in lists of objects and whole copies, to compare GrantedSort with. */
final class PlainSort {
    static final Comparator<Row> ORDER = Comparator.<Row>comparingInt(r -> r.key).thenComparingInt(r -> r.number);

    static final class Row {
        final int key;
        final int number;
        final int count;

        Row(int key, int number, int count) {
            this.key = key;
            this.number = number;
            this.count = count;
        }

        Row with(int more) {
            return new Row(key, number, count + more);
        }
    }

    static final class Run {
        final int number;
        final List<Row> rows;

        Run(int number, List<Row> rows) {
            this.number = number;
            this.rows = rows;
        }
    }

    static final class State {
        boolean combining;
        boolean collecting = true;
        int size = 6;
        int added;
        int costs;
        int begun;
        int cut;
        int numbered;
        int inputsAtBegin;
        List<Row> memory = new ArrayList<>();
        List<Run> runs = new ArrayList<>();
        List<Run> inputs;
        List<Row> output;

        State copy() {
            State c = new State();
            c.combining = combining;
            c.collecting = collecting;
            c.size = size;
            c.added = added;
            c.costs = costs;
            c.begun = begun;
            c.cut = cut;
            c.numbered = numbered;
            c.inputsAtBegin = inputsAtBegin;
            c.memory = new ArrayList<>(memory);
            c.runs = copyRuns(runs);
            c.inputs = inputs == null ? null : copyRuns(inputs);
            c.output = output == null ? null : new ArrayList<>(output);
            return c;
        }

        private static List<Run> copyRuns(List<Run> from) {
            List<Run> to = new ArrayList<>();
            for (Run run : from) {
                to.add(new Run(run.number, new ArrayList<>(run.rows)));
            }
            return to;
        }
    }

    private State s = new State();
    private State saved;
    private final List<State> recorded = new ArrayList<>();
    private String text = "";

    private void record() {
        recorded.add(s.copy());
        if (recorded.size() > 4) {
            recorded.remove(0);
        }
    }

    private static int ways(int size) {
        return size - 1 > 8 ? 8 : size - 1;
    }

    private static void newRun(State s, List<Row> rows) {
        s.runs.add(new Run(s.numbered, new ArrayList<>(rows)));
        s.numbered++;
    }

    private static void write(State s) {
        if (s.memory.isEmpty()) {
            return;
        }
        s.memory.sort(ORDER);
        s.costs += s.memory.size();
        newRun(s, s.memory);
        s.memory.clear();
    }

    private static int addRow(State s, int key) {
        int number = s.added++;
        if (s.combining) {
            for (int i = 0; i < s.memory.size(); i++) {
                if (s.memory.get(i).key == key) {
                    s.memory.set(i, s.memory.get(i).with(1));
                    return number;
                }
            }
        }
        if (s.memory.size() == s.size) {
            write(s);
        }
        s.memory.add(new Row(key, number, 1));
        return number;
    }

    int add(int key) {
        if (key < 0 || key > 999) {
            return -2;
        }
        if (!s.collecting) {
            return -3;
        }
        if (s.added == 120) {
            return -4;
        }
        record();
        return addRow(s, key);
    }

    int combine(boolean on) {
        if (s.added > 0) {
            return -3;
        }
        record();
        int before = s.combining ? 1 : 0;
        s.combining = on;
        return before;
    }

    int flush() {
        if (!s.collecting) {
            return -3;
        }
        record();
        if (s.memory.isEmpty()) {
            return -6;
        }
        write(s);
        return s.numbered - 1;
    }

    int finish() {
        if (!s.collecting) {
            return -3;
        }
        record();
        write(s);
        s.collecting = false;
        return s.runs.size();
    }

    int isCollecting() {
        return s.collecting ? 1 : 0;
    }

    private static int withRows(State s) {
        int inputs = 0;
        if (s.inputs != null) {
            for (Run input : s.inputs) {
                inputs += input.rows.isEmpty() ? 0 : 1;
            }
        }
        return inputs;
    }

    private static int resize(State s, int size) {
        int before = s.numbered;
        boolean less = size < s.size;
        s.size = size;
        if (less && s.collecting && s.memory.size() > size) {
            write(s);
        }
        if (less && s.inputs != null && withRows(s) > ways(size)) {
            s.cut++;
            List<Run> inputs = s.inputs;
            if (!s.output.isEmpty()) {
                newRun(s, s.output);
            }
            for (Run input : inputs) {
                if (!input.rows.isEmpty()) {
                    newRun(s, input.rows);
                }
            }
            s.inputs = null;
            s.output = null;
        }
        return s.numbered - before;
    }

    int grant(int size) {
        if (size < 2 || size > 20) {
            return -2;
        }
        record();
        return resize(s, size);
    }

    int memory(int part) {
        if (part == 0) {
            return s.size;
        }
        if (part == 1) {
            return s.collecting ? s.memory.size() : s.inputs == null ? 0 : withRows(s) + 1;
        }
        return part == 2 ? ways(s.size) : -2;
    }

    int inMemory(int index) {
        return !s.collecting || index < 0 || index >= s.memory.size() ? -1 : s.memory.get(index).key;
    }

    private static void begin(State s) {
        List<Run> bySize = new ArrayList<>(s.runs);
        bySize.sort(Comparator.<Run>comparingInt(r -> r.rows.size()).thenComparingInt(r -> r.number));
        List<Run> chosen = new ArrayList<>(bySize.subList(0, Math.min(ways(s.size), bySize.size())));
        chosen.sort(Comparator.<Run>comparingInt(r -> r.number));
        s.runs.removeAll(chosen);
        s.inputs = chosen;
        s.inputsAtBegin = chosen.size();
        s.output = new ArrayList<>();
        s.begun++;
    }

    private static void oneStep(State s) {
        Run from = null;
        for (Run input : s.inputs) {
            if (!input.rows.isEmpty() && (from == null || ORDER.compare(input.rows.get(0), from.rows.get(0)) < 0)) {
                from = input;
            }
        }
        Row row = from.rows.remove(0);
        s.costs++;
        int last = s.output.size() - 1;
        if (s.combining && last >= 0 && s.output.get(last).key == row.key) {
            s.output.set(last, s.output.get(last).with(row.count));
        } else {
            s.output.add(row);
            s.costs++;
        }
        if (withRows(s) == 0) {
            newRun(s, s.output);
            s.inputs = null;
            s.output = null;
        }
    }

    int merge() {
        if (s.collecting || s.inputs != null || s.runs.size() < 2 || ways(s.size) < 2) {
            return -3;
        }
        record();
        begin(s);
        return s.inputs.size();
    }

    int step(int steps) {
        if (steps < 1 || steps > 200) {
            return -2;
        }
        if (s.inputs == null) {
            return -3;
        }
        record();
        int made = 0;
        while (made < steps && s.inputs != null) {
            oneStep(s);
            made++;
        }
        return made;
    }

    /** Answers -3 if a merge had to be begun and could not be; the state is of no use then. */
    private static int runAll(State s) {
        write(s);
        s.collecting = false;
        int begun = 0;
        while (s.inputs != null || s.runs.size() > 1) {
            if (s.inputs == null) {
                if (ways(s.size) < 2) {
                    return -3;
                }
                begin(s);
                begun++;
            }
            oneStep(s);
        }
        return begun;
    }

    int run() {
        State after = s.copy();
        int begun = runAll(after);
        if (begun >= 0) {
            record();
            s = after;
        }
        return begun;
    }

    int isMerging() {
        return s.inputs == null ? 0 : 1;
    }

    int isDone() {
        return !s.collecting && s.inputs == null && s.runs.size() <= 1 ? 1 : 0;
    }

    int ofMerge(int part) {
        if (part < 0 || part > 3) {
            return -2;
        }
        if (s.inputs == null) {
            return -6;
        }
        int left = 0;
        for (Run input : s.inputs) {
            left += input.rows.size();
        }
        return new int[] {s.inputsAtBegin, withRows(s), s.output.size(), left}[part];
    }

    int runs() {
        return s.runs.size();
    }

    int runAt(int index) {
        return index < 0 || index >= s.runs.size() ? -1 : s.runs.get(index).number;
    }

    private List<Row> rowsOf(int number) {
        for (Run run : s.runs) {
            if (run.number == number) {
                return run.rows;
            }
        }
        return null;
    }

    int size(int run) {
        List<Row> rows = rowsOf(run);
        return rows == null ? -1 : rows.size();
    }

    int row(int run, int index, int part) {
        List<Row> rows = rowsOf(run);
        if (rows == null || index < 0 || index >= rows.size()) {
            return -1;
        }
        Row row = rows.get(index);
        return part == 0 ? row.key : part == 1 ? row.number : part == 2 ? row.count : -2;
    }

    private List<Row> allRows() {
        List<Row> all = new ArrayList<>(s.memory);
        s.runs.forEach(run -> all.addAll(run.rows));
        if (s.inputs != null) {
            s.inputs.forEach(run -> all.addAll(run.rows));
            all.addAll(s.output);
        }
        return all;
    }

    int count(int what) {
        switch (what) {
            case 0:
                return s.added;
            case 1:
                return allRows().size();
            case 2:
                return allRows().stream().mapToInt(r -> r.count).sum();
            case 3:
                return s.costs;
            case 4:
                return s.begun;
            case 5:
                return s.cut;
            case 6:
                return s.numbered;
            default:
                return -2;
        }
    }

    int rank(int key) {
        if (key < 0 || key > 999) {
            return -2;
        }
        return allRows().stream().filter(r -> r.key < key).mapToInt(r -> r.count).sum();
    }

    private int foretell(int size, boolean costs) {
        if (size < 2 || size > 20) {
            return -2;
        }
        State after = s.copy();
        resize(after, size);
        int begun = runAll(after);
        if (begun < 0) {
            return -3;
        }
        return costs ? after.costs - s.costs : begun;
    }

    int costsWith(int size) {
        return foretell(size, true);
    }

    int mergesWith(int size) {
        return foretell(size, false);
    }

    int bestSize() {
        int best = 0;
        int least = Integer.MAX_VALUE;
        for (int size = 2; size <= 20; size++) {
            int costs = costsWith(size);
            if (costs >= 0 && costs < least) {
                best = size;
                least = costs;
            }
        }
        return best;
    }

    int append(int code) {
        if (code < 33 || code > 126) {
            return -2;
        }
        if (text.length() == 80) {
            return -4;
        }
        text += (char) code;
        return text.length();
    }

    int clearText() {
        int before = text.length();
        text = "";
        return before;
    }

    /** The keys of an item, or null if it is none. */
    private static List<Integer> keysOf(String item) {
        List<Integer> keys = new ArrayList<>();
        if (item.matches("0|[1-9][0-9]{0,2}")) {
            keys.add(Integer.parseInt(item));
        } else if (item.matches("(0|[1-9][0-9]{0,2})x([2-9]|1[0-9]|20)")) {
            int x = item.indexOf('x');
            for (int i = 0; i < Integer.parseInt(item.substring(x + 1)); i++) {
                keys.add(Integer.parseInt(item.substring(0, x)));
            }
        } else if (item.matches("(0|[1-9][0-9]{0,2})-(0|[1-9][0-9]{0,2})")) {
            int minus = item.indexOf('-');
            int from = Integer.parseInt(item.substring(0, minus));
            int to = Integer.parseInt(item.substring(minus + 1));
            for (int key = from; key <= to; key++) {
                keys.add(key);
            }
            if (from >= to) {
                return null;
            }
        }
        return keys.isEmpty() ? null : keys;
    }

    /** Tries every way to go on, up to the longest item. */
    private static boolean beginsAnItem(String part) {
        if (part.isEmpty() || keysOf(part) != null) {
            return true;
        }
        if (part.length() > 7) {
            return false;
        }
        if (part.endsWith("x") || part.endsWith("-")) {
            return beginsWith(part, 1);
        }
        return part.matches("[0-9]+[x-][0-9]+") && beginsWith(part, 0);
    }

    private static boolean beginsWith(String part, int least) {
        for (int number = least; number <= 999; number++) {
            if (keysOf(part + number) != null) {
                return true;
            }
        }
        for (int number = 0; number <= 99; number++) {
            if (keysOf(part + number / 10 + number % 10) != null) {
                return true;
            }
        }
        return false;
    }

    int errorPosition() {
        String[] items = text.split(",", -1);
        int at = 0;
        for (int i = 0; i < items.length; i++) {
            for (int end = 1; end <= items[i].length(); end++) {
                if (!beginsAnItem(items[i].substring(0, end))) {
                    return at + end - 1;
                }
            }
            at += items[i].length();
            if (keysOf(items[i]) == null) {
                return at;
            }
            at++;
        }
        return -6;
    }

    int read() {
        if (errorPosition() != -6) {
            return -5;
        }
        if (!s.collecting) {
            return -3;
        }
        record();
        int before = s.added;
        for (String item : text.split(",")) {
            for (int key : keysOf(item)) {
                if (s.added < 120) {
                    addRow(s, key);
                }
            }
        }
        text = "";
        return s.added - before;
    }

    int undo() {
        if (recorded.isEmpty()) {
            return -3;
        }
        s = recorded.remove(recorded.size() - 1);
        return recorded.size();
    }

    int save() {
        saved = s.copy();
        return s.added;
    }

    int restore() {
        if (saved == null) {
            return -3;
        }
        record();
        s = saved.copy();
        return s.added;
    }
}
