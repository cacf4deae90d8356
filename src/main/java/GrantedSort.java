/** An external sort whose memory can be made smaller or larger at any time; see README.md. */
public final class GrantedSort {
    public static final int NO_SUCH = -1;
    public static final int BAD_VALUE = -2;
    public static final int NOT_POSSIBLE = -3;
    public static final int LIMIT = -4;
    public static final int BAD_TEXT = -5;
    public static final int NONE = -6;

    private static final int MAX_KEY = 999;
    private static final int MAX_ROWS = 120;
    private static final int MIN_MEMORY = 2;
    private static final int MAX_MEMORY = 20;
    private static final int FIRST_MEMORY = 6;
    private static final int MIN_WAYS = 2;
    private static final int MAX_WAYS = 8;
    private static final int MAX_STEPS = 200;
    private static final int MIN_CODE = 33;
    private static final int MAX_CODE = 126;
    private static final int MAX_CHARACTERS = 80;
    private static final int MIN_TIMES = 2;
    private static final int MAX_TIMES = 20;
    private static final int MAX_RECORDED = 4;

    // All states are made once and copied into, so that no call makes an object.
    private final SortState current = new SortState();
    private final SortState foretold = new SortState();
    private final SortState saved = new SortState();
    private boolean hasSaved;
    private final History history = new History();
    private final CharacterBuffer buffer = new CharacterBuffer();
    private final ItemReader reader = new ItemReader();

    public GrantedSort() {
    }

    // ---- collecting

    public int add(int key) {
        if (!isKey(key)) {
            return BAD_VALUE;
        }
        if (!current.isCollecting) {
            return NOT_POSSIBLE;
        }
        if (!current.table.hasRoom()) {
            return LIMIT;
        }
        history.remember(current);
        return current.collect(key);
    }

    public int combine(boolean isCombining) {
        if (current.table.total > 0) {
            return NOT_POSSIBLE;
        }
        history.remember(current);
        int before = asNumber(current.isCombining);
        current.isCombining = isCombining;
        return before;
    }

    public int flush() {
        if (!current.isCollecting) {
            return NOT_POSSIBLE;
        }
        history.remember(current);
        return current.writeMemory();
    }

    public int finish() {
        if (!current.isCollecting) {
            return NOT_POSSIBLE;
        }
        history.remember(current);
        current.endCollecting();
        return current.disk.total;
    }

    public int isCollecting() {
        return asNumber(current.isCollecting);
    }

    // ---- memory

    public int grant(int size) {
        if (!isMemorySize(size)) {
            return BAD_VALUE;
        }
        history.remember(current);
        return current.resize(size);
    }

    public int memory(int part) {
        switch (part) {
            case 0:
                return current.memorySize;
            case 1:
                return current.memoryInUse();
            case 2:
                return current.ways();
            default:
                return BAD_VALUE;
        }
    }

    public int inMemory(int index) {
        if (!current.isInMemory(index)) {
            return NO_SUCH;
        }
        return current.table.keyOf(current.memoryRowAt(index));
    }

    // ---- merging

    public int merge() {
        if (!current.canBeginMerge()) {
            return NOT_POSSIBLE;
        }
        history.remember(current);
        return current.beginMerge();
    }

    public int step(int steps) {
        if (steps < 1 || steps > MAX_STEPS) {
            return BAD_VALUE;
        }
        if (!current.hasMerge()) {
            return NOT_POSSIBLE;
        }
        history.remember(current);
        return current.makeSteps(steps);
    }

    public int run() {
        if (!current.canRunToEnd()) {
            return NOT_POSSIBLE;
        }
        history.remember(current);
        return current.runToEnd();
    }

    public int isMerging() {
        return asNumber(current.hasMerge());
    }

    public int isDone() {
        return asNumber(current.isSorted());
    }

    public int ofMerge(int part) {
        if (part < 0 || part > 3) {
            return BAD_VALUE;
        }
        if (!current.hasMerge()) {
            return NONE;
        }
        switch (part) {
            case 0:
                return current.inputsAtBegin;
            case 1:
                return current.inputs.total;
            case 2:
                return current.outputLength;
            default:
                return current.inputs.rowsInAll();
        }
    }

    // ---- runs and rows

    public int runs() {
        return current.disk.total;
    }

    public int runAt(int index) {
        if (!current.disk.has(index)) {
            return NO_SUCH;
        }
        return current.disk.numberAt(index);
    }

    public int size(int run) {
        int place = current.disk.placeOf(run);
        if (!current.disk.has(place)) {
            return NO_SUCH;
        }
        return current.disk.lengthAt(place);
    }

    public int row(int run, int index, int part) {
        int found = current.rowOfRun(run, index);
        if (!current.table.has(found)) {
            return NO_SUCH;
        }
        switch (part) {
            case 0:
                return current.table.keyOf(found);
            case 1:
                return found;
            case 2:
                return current.table.countOf(found);
            default:
                return BAD_VALUE;
        }
    }

    public int count(int what) {
        switch (what) {
            case 0:
                return current.table.total;
            case 1:
                return current.table.rowsKept();
            case 2:
                return current.table.countsBelow(MAX_KEY + 1);
            case 3:
                return current.costs;
            case 4:
                return current.mergesBegun;
            case 5:
                return current.mergesCut;
            case 6:
                return current.runsNumbered;
            default:
                return BAD_VALUE;
        }
    }

    public int rank(int key) {
        if (!isKey(key)) {
            return BAD_VALUE;
        }
        return current.table.countsBelow(key);
    }

    // ---- predictions; they change nothing

    public int costsWith(int size) {
        if (!isMemorySize(size)) {
            return BAD_VALUE;
        }
        if (!foretell(size)) {
            return NOT_POSSIBLE;
        }
        return foretold.costs - current.costs;
    }

    public int mergesWith(int size) {
        if (!isMemorySize(size)) {
            return BAD_VALUE;
        }
        if (!foretell(size)) {
            return NOT_POSSIBLE;
        }
        return foretold.mergesBegun - current.mergesBegun;
    }

    public int bestSize() {
        int best = NONE;
        int least = 0;
        // The costs hang on the ways alone, and a larger memory has no more ways than MAX_WAYS.
        for (int size = MIN_MEMORY; size <= MAX_WAYS + 1; size++) {
            if (foretell(size) && (best == NONE || foretold.costs < least)) {
                best = size;
                least = foretold.costs;
            }
        }
        return best;
    }

    // ---- texts

    public int append(int code) {
        if (code < MIN_CODE || code > MAX_CODE) {
            return BAD_VALUE;
        }
        if (!buffer.hasRoom()) {
            return LIMIT;
        }
        return buffer.put(code);
    }

    public int clearText() {
        return buffer.empty();
    }

    public int errorPosition() {
        reader.beginItem();
        for (int i = 0; i < buffer.length; i++) {
            if (!reader.take(buffer.codeAt(i))) {
                return i;
            }
        }
        return reader.isWhole() ? NONE : buffer.length;
    }

    public int read() {
        if (errorPosition() != NONE) {
            return BAD_TEXT;
        }
        if (!current.isCollecting) {
            return NOT_POSSIBLE;
        }
        history.remember(current);
        int before = current.table.total;
        collectItems();
        buffer.empty();
        return current.table.total - before;
    }

    // ---- undo, saved state

    public int undo() {
        if (history.total == 0) {
            return NOT_POSSIBLE;
        }
        history.takeLatest(current);
        return history.total;
    }

    public int save() {
        saved.copyFrom(current);
        hasSaved = true;
        return saved.table.total;
    }

    public int restore() {
        if (!hasSaved) {
            return NOT_POSSIBLE;
        }
        history.remember(current);
        current.copyFrom(saved);
        return current.table.total;
    }

    // ---- helpers

    private static boolean isKey(int key) {
        return key >= 0 && key <= MAX_KEY;
    }

    private static boolean isMemorySize(int size) {
        return size >= MIN_MEMORY && size <= MAX_MEMORY;
    }

    private static int asNumber(boolean is) {
        return is ? 1 : 0;
    }

    /** Grants the size and runs to the end in a copy; answers whether that is possible. */
    private boolean foretell(int size) {
        foretold.copyFrom(current);
        foretold.resize(size);
        if (!foretold.canRunToEnd()) {
            return false;
        }
        foretold.runToEnd();
        return true;
    }

    /** The buffer must hold a text. */
    private void collectItems() {
        reader.beginItem();
        for (int i = 0; i < buffer.length; i++) {
            int code = buffer.codeAt(i);
            if (code == ',') {
                collectItem();
            }
            reader.take(code);
        }
        collectItem();
    }

    private void collectItem() {
        int rows = reader.rowsOfItem();
        for (int i = 0; i < rows && current.table.hasRoom(); i++) {
            current.collect(reader.keyOfItem(i));
        }
    }

    /** Everything that undo and restore bring back. */
    private static final class SortState {
        final RowTable table = new RowTable();
        final RunList disk = new RunList();
        boolean isCombining;
        boolean isCollecting = true;
        int memorySize = FIRST_MEMORY;
        final int[] memoryRows = new int[MAX_MEMORY];
        int rowsInMemory;
        // An input that is empty leaves this list, so there is a merge while it holds one.
        final RunList inputs = new RunList();
        int inputsAtBegin;
        int outputFirst;
        int outputLast;
        int outputLength;
        int costs;
        int mergesBegun;
        int mergesCut;
        int runsNumbered;

        void copyFrom(SortState other) {
            table.copyFrom(other.table);
            disk.copyFrom(other.disk);
            isCombining = other.isCombining;
            isCollecting = other.isCollecting;
            memorySize = other.memorySize;
            System.arraycopy(other.memoryRows, 0, memoryRows, 0, MAX_MEMORY);
            rowsInMemory = other.rowsInMemory;
            inputs.copyFrom(other.inputs);
            inputsAtBegin = other.inputsAtBegin;
            outputFirst = other.outputFirst;
            outputLast = other.outputLast;
            outputLength = other.outputLength;
            costs = other.costs;
            mergesBegun = other.mergesBegun;
            mergesCut = other.mergesCut;
            runsNumbered = other.runsNumbered;
        }

        boolean isInMemory(int index) {
            return index >= 0 && index < rowsInMemory;
        }

        int memoryRowAt(int index) {
            return index >= 0 && index < MAX_MEMORY ? memoryRows[index] : NO_SUCH;
        }

        boolean hasMerge() {
            return inputs.total > 0;
        }

        boolean isSorted() {
            return !isCollecting && !hasMerge() && disk.total <= 1;
        }

        int ways() {
            return Math.min(memorySize - 1, MAX_WAYS);
        }

        int memoryInUse() {
            if (isCollecting) {
                return rowsInMemory;
            }
            return hasMerge() ? inputs.total + 1 : 0;
        }

        int rowOfRun(int run, int index) {
            int place = disk.placeOf(run);
            if (index < 0 || index >= disk.lengthAt(place)) {
                return NO_SUCH;
            }
            return table.rowBehind(disk.firstAt(place), index);
        }

        /** Adds a row to the memory; answers its number. */
        int collect(int key) {
            int keeper = isCombining ? rowInMemoryWith(key) : NO_SUCH;
            int row = table.put(key);
            if (table.has(keeper)) {
                table.absorb(keeper, row);
                return row;
            }
            if (rowsInMemory >= memorySize) {
                writeMemory();
            }
            placeInMemory(rowsInMemory, row);
            rowsInMemory++;
            return row;
        }

        int rowInMemoryWith(int key) {
            for (int i = 0; i < rowsInMemory; i++) {
                int row = memoryRowAt(i);
                if (table.keyOf(row) == key) {
                    return row;
                }
            }
            return NO_SUCH;
        }

        int writeMemory() {
            if (rowsInMemory <= 0) {
                return NONE;
            }
            sortMemory();
            for (int i = 1; i < rowsInMemory; i++) {
                table.link(memoryRowAt(i - 1), memoryRowAt(i));
            }
            costs += rowsInMemory;
            int number = makeRun(memoryRowAt(0), rowsInMemory);
            rowsInMemory = 0;
            return number;
        }

        void sortMemory() {
            for (int i = 1; i < rowsInMemory; i++) {
                int row = memoryRowAt(i);
                int place = i;
                while (place > 0 && table.comesBefore(row, memoryRowAt(place - 1))) {
                    placeInMemory(place, memoryRowAt(place - 1));
                    place--;
                }
                placeInMemory(place, row);
            }
        }

        void placeInMemory(int index, int row) {
            if (index >= 0 && index < MAX_MEMORY) {
                memoryRows[index] = row;
            }
        }

        int makeRun(int first, int length) {
            int number = runsNumbered;
            runsNumbered++;
            disk.insert(number, first, length);
            return number;
        }

        void endCollecting() {
            writeMemory();
            isCollecting = false;
        }

        /** Answers the number of runs that this makes. */
        int resize(int size) {
            memorySize = size;
            // More rows or inputs than there is room for are there only if the size was made less.
            if (isCollecting && rowsInMemory > size) {
                writeMemory();
                return 1;
            }
            return inputs.total > ways() ? cutShort() : 0;
        }

        int cutShort() {
            int before = runsNumbered;
            closeOutput();
            for (int i = 0; i < inputs.total; i++) {
                makeRun(inputs.firstAt(i), inputs.lengthAt(i));
            }
            inputs.removeAll();
            mergesCut++;
            return runsNumbered - before;
        }

        boolean canBeginMerge() {
            return !isCollecting && !hasMerge() && disk.total >= 2 && ways() >= MIN_WAYS;
        }

        int beginMerge() {
            int wanted = Math.min(ways(), disk.total);
            for (int i = 0; i < wanted; i++) {
                int place = disk.placeOfShortest();
                inputs.insert(disk.numberAt(place), disk.firstAt(place), disk.lengthAt(place));
                disk.remove(place);
            }
            inputsAtBegin = inputs.total;
            mergesBegun++;
            return inputsAtBegin;
        }

        int makeSteps(int most) {
            if (!hasMerge()) {
                return 0;
            }
            int made = 0;
            while (made < most && hasMerge()) {
                moveFirstRow();
                made++;
            }
            if (!hasMerge()) {
                closeOutput();
            }
            return made;
        }

        void moveFirstRow() {
            int place = inputWithFirstRow();
            int row = inputs.firstAt(place);
            if (inputs.lengthAt(place) > 1) {
                inputs.passFirst(place, table.nextOf(row));
            } else {
                inputs.remove(place);
            }
            costs++;
            if (isCombining && outputLength > 0 && table.keyOf(outputLast) == table.keyOf(row)) {
                table.absorb(outputLast, row);
                return;
            }
            if (outputLength == 0) {
                outputFirst = row;
            } else {
                table.link(outputLast, row);
            }
            outputLast = row;
            outputLength++;
            costs++;
        }

        int inputWithFirstRow() {
            int best = 0;
            for (int i = 1; i < inputs.total; i++) {
                if (table.comesBefore(inputs.firstAt(i), inputs.firstAt(best))) {
                    best = i;
                }
            }
            return best;
        }

        void closeOutput() {
            if (outputLength > 0) {
                makeRun(outputFirst, outputLength);
            }
            outputLength = 0;
        }

        boolean canRunToEnd() {
            int runsToMerge = disk.total;
            if (rowsInMemory > 0) {
                runsToMerge++;
            }
            if (hasMerge()) {
                runsToMerge++;
            }
            return runsToMerge <= 1 || ways() >= MIN_WAYS;
        }

        /** Answers the number of merges that are begun. */
        int runToEnd() {
            endCollecting();
            makeSteps(MAX_ROWS);
            int begun = 0;
            // Each merge leaves fewer runs, so there are fewer merges than rows.
            while (begun < MAX_ROWS && canBeginMerge()) {
                beginMerge();
                makeSteps(MAX_ROWS);
                begun++;
            }
            return begun;
        }
    }

    /** All rows by their numbers; each run is a chain of them. */
    private static final class RowTable {
        final int[] keys = new int[MAX_ROWS];
        // 0 for a row that was combined with another one.
        final int[] counts = new int[MAX_ROWS];
        final int[] nexts = new int[MAX_ROWS];
        int total;

        void copyFrom(RowTable other) {
            System.arraycopy(other.keys, 0, keys, 0, MAX_ROWS);
            System.arraycopy(other.counts, 0, counts, 0, MAX_ROWS);
            System.arraycopy(other.nexts, 0, nexts, 0, MAX_ROWS);
            total = other.total;
        }

        boolean has(int row) {
            return row >= 0 && row < total;
        }

        boolean hasRoom() {
            return total >= 0 && total < MAX_ROWS;
        }

        int put(int key) {
            if (!hasRoom()) {
                return NO_SUCH;
            }
            int row = total;
            keys[row] = key;
            counts[row] = 1;
            nexts[row] = NO_SUCH;
            total++;
            return row;
        }

        int keyOf(int row) {
            return row >= 0 && row < MAX_ROWS ? keys[row] : NO_SUCH;
        }

        int countOf(int row) {
            return row >= 0 && row < MAX_ROWS ? counts[row] : 0;
        }

        int nextOf(int row) {
            return row >= 0 && row < MAX_ROWS ? nexts[row] : NO_SUCH;
        }

        void link(int row, int next) {
            if (row >= 0 && row < MAX_ROWS) {
                nexts[row] = next;
            }
        }

        int rowBehind(int first, int distance) {
            int row = first;
            for (int i = 0; i < distance; i++) {
                row = nextOf(row);
            }
            return row;
        }

        boolean comesBefore(int row, int other) {
            if (row < 0 || row >= MAX_ROWS || other < 0 || other >= MAX_ROWS) {
                return false;
            }
            return keys[row] < keys[other] || (keys[row] == keys[other] && row < other);
        }

        void absorb(int keeper, int row) {
            if (keeper >= 0 && keeper < MAX_ROWS && row >= 0 && row < MAX_ROWS) {
                counts[keeper] += counts[row];
                counts[row] = 0;
            }
        }

        int rowsKept() {
            int kept = 0;
            for (int row = 0; row < total; row++) {
                if (countOf(row) > 0) {
                    kept++;
                }
            }
            return kept;
        }

        int countsBelow(int key) {
            int sum = 0;
            for (int row = 0; row < total; row++) {
                if (keyOf(row) < key) {
                    sum += countOf(row);
                }
            }
            return sum;
        }
    }

    /** Runs in the order of their numbers. There are never more runs than rows. */
    private static final class RunList {
        final int[] numbers = new int[MAX_ROWS];
        final int[] firsts = new int[MAX_ROWS];
        final int[] lengths = new int[MAX_ROWS];
        int total;

        void copyFrom(RunList other) {
            System.arraycopy(other.numbers, 0, numbers, 0, MAX_ROWS);
            System.arraycopy(other.firsts, 0, firsts, 0, MAX_ROWS);
            System.arraycopy(other.lengths, 0, lengths, 0, MAX_ROWS);
            total = other.total;
        }

        boolean has(int place) {
            return place >= 0 && place < total;
        }

        int numberAt(int place) {
            return place >= 0 && place < MAX_ROWS ? numbers[place] : NO_SUCH;
        }

        int firstAt(int place) {
            return place >= 0 && place < MAX_ROWS ? firsts[place] : NO_SUCH;
        }

        int lengthAt(int place) {
            return place >= 0 && place < MAX_ROWS ? lengths[place] : 0;
        }

        int placeOf(int number) {
            for (int i = 0; i < total; i++) {
                if (numberAt(i) == number) {
                    return i;
                }
            }
            return NO_SUCH;
        }

        int placeOfShortest() {
            int best = 0;
            for (int i = 1; i < total; i++) {
                if (lengthAt(i) < lengthAt(best)) {
                    best = i;
                }
            }
            return best;
        }

        int rowsInAll() {
            int sum = 0;
            for (int i = 0; i < total; i++) {
                sum += lengthAt(i);
            }
            return sum;
        }

        void insert(int number, int first, int length) {
            if (total < 0 || total >= MAX_ROWS) {
                return;
            }
            int place = total;
            while (place > 0 && numbers[place - 1] > number) {
                numbers[place] = numbers[place - 1];
                firsts[place] = firsts[place - 1];
                lengths[place] = lengths[place - 1];
                place--;
            }
            numbers[place] = number;
            firsts[place] = first;
            lengths[place] = length;
            total++;
        }

        void remove(int place) {
            if (place < 0 || place >= total || total > MAX_ROWS) {
                return;
            }
            int behind = total - place - 1;
            System.arraycopy(numbers, place + 1, numbers, place, behind);
            System.arraycopy(firsts, place + 1, firsts, place, behind);
            System.arraycopy(lengths, place + 1, lengths, place, behind);
            total--;
        }

        void removeAll() {
            total = 0;
        }

        /** Takes the first row from a run that has more than one. */
        void passFirst(int place, int next) {
            if (place >= 0 && place < MAX_ROWS) {
                firsts[place] = next;
                lengths[place]--;
            }
        }
    }

    /** The latest recorded states, in a ring. */
    private static final class History {
        final SortState[] states = new SortState[MAX_RECORDED];
        int oldest;
        int total;

        History() {
            for (int i = 0; i < MAX_RECORDED; i++) {
                states[i] = new SortState();
            }
        }

        void remember(SortState state) {
            if (total == MAX_RECORDED) {
                oldest = (oldest + 1) % MAX_RECORDED;
                total--;
            }
            SortState place = stateAt(total);
            if (place != null) {
                place.copyFrom(state);
                total++;
            }
        }

        void takeLatest(SortState target) {
            SortState latest = stateAt(total - 1);
            if (latest != null) {
                target.copyFrom(latest);
                total--;
            }
        }

        private SortState stateAt(int age) {
            int place = Math.floorMod(oldest + age, MAX_RECORDED);
            return place >= 0 && place < MAX_RECORDED ? states[place] : null;
        }
    }

    private static final class CharacterBuffer {
        final int[] codes = new int[MAX_CHARACTERS];
        int length;

        boolean hasRoom() {
            return length >= 0 && length < MAX_CHARACTERS;
        }

        int put(int code) {
            if (hasRoom()) {
                codes[length] = code;
                length++;
            }
            return length;
        }

        int codeAt(int index) {
            return index >= 0 && index < length && index < MAX_CHARACTERS ? codes[index] : 0;
        }

        int empty() {
            int before = length;
            length = 0;
            return before;
        }
    }

    /** Reads a text character by character and knows the item that it is in. */
    private static final class ItemReader {
        static final int ONE_KEY = 0;
        static final int TIMES = 1;
        static final int RANGE = 2;

        int kind;
        // The key ahead of the sign of TIMES and RANGE.
        int firstKey;
        boolean hasDigit;
        int value;
        int least;
        int most;

        void beginItem() {
            beginNumber(ONE_KEY, 0, MAX_KEY);
        }

        private void beginNumber(int newKind, int newLeast, int newMost) {
            kind = newKind;
            hasDigit = false;
            value = 0;
            least = newLeast;
            most = newMost;
        }

        /** Takes a character, or answers false if it is an error. */
        boolean take(int code) {
            if (code >= '0' && code <= '9') {
                return takeDigit(code - '0');
            }
            if (!isWhole()) {
                return false;
            }
            if (code == ',') {
                beginItem();
                return true;
            }
            if (kind != ONE_KEY) {
                return false;
            }
            return takeSign(code);
        }

        private boolean takeDigit(int digit) {
            if (hasDigit && value == 0) {
                return false;
            }
            int longer = value * 10 + digit;
            if (!canBegin(longer)) {
                return false;
            }
            value = longer;
            hasDigit = true;
            return true;
        }

        /** Whether a number from least to most has these first digits, or is this number. */
        private boolean canBegin(int digits) {
            if (digits == 0) {
                return least <= 0;
            }
            return meets(digits, digits)
                || meets(digits * 10, digits * 10 + 9)
                || meets(digits * 100, digits * 100 + 99);
        }

        private boolean meets(int low, int high) {
            return low <= most && high >= least;
        }

        private boolean takeSign(int code) {
            if (code == 'x') {
                firstKey = value;
                beginNumber(TIMES, MIN_TIMES, MAX_TIMES);
                return true;
            }
            if (code == '-' && value < MAX_KEY) {
                firstKey = value;
                beginNumber(RANGE, value + 1, MAX_KEY);
                return true;
            }
            return false;
        }

        boolean isWhole() {
            return hasDigit && meets(value, value);
        }

        int rowsOfItem() {
            switch (kind) {
                case TIMES:
                    return value;
                case RANGE:
                    return value - firstKey + 1;
                default:
                    return 1;
            }
        }

        int keyOfItem(int index) {
            switch (kind) {
                case TIMES:
                    return firstKey;
                case RANGE:
                    return firstKey + index;
                default:
                    return value;
            }
        }
    }
}
