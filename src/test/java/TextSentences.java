import java.util.HashSet;
import java.util.Set;
import java.util.function.Supplier;

/** Of "Terms": texts; and promises 25 to 28: append, clearText, errorPosition and read. */
final class TextSentences extends SentenceGroup {
    // Two characters that stand beside each one that a text can hold, and the ends of the range.
    private static final String SIGNS = "0123456789,x-./:+wyX!~";
    private static final int[] FIRST_KEYS = {0, 1, 2, 9, 10, 11, 19, 20, 99, 100, 109, 110, 111, 199, 500, 555, 989,
        990, 998, 999};

    private final Set<String> items = new HashSet<>();
    private final Set<String> beginnings = new HashSet<>();

    TextSentences(Checks checks, Document document) {
        super(checks, document);
    }

    @Override
    void all() {
        noBoundary("Terms", "Texts.");
        atMost80Characters();
        itemsAndCommas();
        kindsOfItems();
        keysAndNumbers();
        rowsOfAnItem();
        charactersThatAreErrors();
        promise25Code();
        promise25Limit();
        promise26();
        promise27Position();
        promise27NotAText();
        promise28Rows();
        promise28UpToThe120th();
        promise28BadText();
        promise28NotPossible();
    }

    private void dueError(String text, int due) {
        due("errorPosition of " + text, Sorts.withText(text).errorPosition(), due);
    }

    private void dueRows(String text, String keys) {
        GrantedSort x = Sorts.withText(text);
        x.grant(20);
        due("errorPosition of " + text, x.errorPosition(), NONE);
        due("rows of " + text, x.read(), keys.split(" ").length);
        due("keys of " + text, Sorts.memory(x), keys);
    }

    private void atMost80Characters() {
        holds("Terms", "A buffer of at most 80 characters holds rows:");
        GrantedSort x = Sorts.withText("10,".repeat(26) + "1");
        due("the 80th character", x.append('7'), 80);
        due("the 81st character", x.append('7'), LIMIT);
        due("80 characters are a text", x.errorPosition(), NONE);
        due("80 characters hold rows", x.read(), 27);
        due("the last key", x.inMemory(2), 17);
    }

    private void itemsAndCommas() {
        holds("Terms", "text = item { \",\" item }");
        dueRows("5", "5");
        dueRows("5,4", "5 4");
        dueRows("5,4x2,7-9,4", "5 4 4 7 8 9 4");
        due("as many items as there can be", Sorts.withText("1,".repeat(39) + "1").read(), 40);
        dueError("", 0);
        dueError(",", 0);
        dueError(",5", 0);
        dueError("5,", 2);
        dueError("5,,", 2);
        dueError("5,,4", 2);
        dueError("5;4", 1);
    }

    private void kindsOfItems() {
        holds("Terms", "item = key | key \"x\" number | key \"-\" key");
        dueRows("12", "12");
        dueRows("12x3", "12 12 12");
        dueRows("12-14", "12 13 14");
        dueError("x2", 0);
        dueError("-5", 0);
        dueError("5x", 2);
        dueError("5-", 2);
        dueError("5x,", 2);
        dueError("5-,", 2);
        dueError("5xx", 2);
        dueError("5--", 2);
        dueError("5x-", 2);
        dueError("5-x", 2);
        dueError("5x2x", 3);
        dueError("5x2-", 3);
        dueError("5-7x", 3);
        dueError("5-7-", 3);
        dueError("5X2", 1);
        dueError("5+7", 1);
    }

    private void keysAndNumbers() {
        holds("Terms", "A key is 0 to 999, and a number 2 to 20, both without leading zeros.");
        for (int key = 0; key <= 999; key++) {
            dueError(Integer.toString(key), NONE);
        }
        dueRows("0,999", "0 999");
        dueError("1000", 3);
        dueError("9999", 3);
        dueError("00", 1);
        dueError("01", 1);
        dueError("099", 1);
        dueError("5-06", 2);
        dueError("0-0", 2);
        dueError("0-01", 2);
        dueError("998-1000", 4);
        for (int number = 2; number <= 20; number++) {
            due("so many rows", Sorts.withText("7x" + number).read(), number);
        }
        dueError("7x0", 2);
        dueError("7x1", 3);
        dueError("7x1,", 3);
        dueError("7x02", 2);
        dueError("7x21", 3);
        dueError("7x30", 3);
        dueError("7x99", 3);
        dueError("7x200", 4);
        dueError("7x100", 4);
    }

    private void rowsOfAnItem() {
        holds("Terms", "An item is a row with this key, or so many rows with this key, or a row for each key from the"
            + " first one to the second one, which is greater.");
        dueRows("0", "0");
        dueRows("0x2", "0 0");
        dueRows("999x20", "999 999 999 999 999 999 999 999 999 999 999 999 999 999 999 999 999 999 999 999");
        dueRows("0-1", "0 1");
        dueRows("998-999", "998 999");
        dueRows("99-101", "99 100 101");
        dueRows("9-11", "9 10 11");
        dueError("5-5", 3);
        dueError("5-5,", 3);
        dueError("5-4,", 3);
        dueError("50-50", 5);
        dueError("50-50,", 5);
        dueError("500-500", 6);
        dueError("500-499", 4);
        dueError("500-501", NONE);
        dueError("999-", 3);
        dueError("998-998", 6);
        dueError("99-1", 4);
        dueError("99-10", 5);
        dueError("99-100", NONE);
        dueError("110-10", 5);
        dueError("110-11", 6);
    }

    private void charactersThatAreErrors() {
        holds("Terms", "A character of the buffer is an error if no text begins with the characters ahead of it and"
            + " this character.");
        listAllItems();
        Set<Integer> firstKeys = new HashSet<>();
        for (int key : FIRST_KEYS) {
            firstKeys.add(key);
        }
        GrantedSort x = new GrantedSort();
        int texts = 0;
        for (String beginning : beginnings) {
            int sign = Math.max(beginning.indexOf('x'), beginning.indexOf('-'));
            if (sign > 0 && !firstKeys.contains(Integer.parseInt(beginning.substring(0, sign)))) {
                continue;
            }
            for (int i = 0; i < SIGNS.length(); i++) {
                // So many texts of up to 21 characters take fewer than 512 calls.
                x = texts % 20 == 0 ? new GrantedSort() : x;
                String ahead = texts % 3 == 0 ? "3x2,40-999,0," : "";
                dueOfLastCharacter(x, ahead, beginning, SIGNS.charAt(i));
                texts++;
            }
        }
        due("many texts", texts > 200_000 ? 1 : 0, 1);
    }

    private void listAllItems() {
        for (int key = 0; key <= 999; key++) {
            items.add(Integer.toString(key));
            for (int number = 2; number <= 20; number++) {
                items.add(key + "x" + number);
            }
            for (int last = key + 1; last <= 999; last++) {
                items.add(key + "-" + last);
            }
        }
        for (String item : items) {
            for (int length = 0; length <= item.length(); length++) {
                beginnings.add(item.substring(0, length));
            }
        }
    }

    private void dueOfLastCharacter(GrantedSort x, String ahead, String beginning, char sign) {
        String item = beginning + sign;
        int length = ahead.length() + item.length();
        Sorts.type(x, ahead + item);
        if (items.contains(item)) {
            due(ahead + item, x.errorPosition(), NONE);
        } else if (beginnings.contains(item) || (sign == ',' && items.contains(beginning))) {
            due(ahead + item, x.errorPosition(), length);
        } else {
            due(ahead + item, x.errorPosition(), length - 1);
        }
    }

    private void promise25Code() {
        holds("Promise 25", "int append(int code): Appends a character to the buffer.");
        holds("Promise 25", "code: 33 to 126");
        holds("Promise 25", "Returns the number of characters in the buffer;");
        GrantedSort x = new GrantedSort();
        due("the least code", x.append(33), 1);
        due("the greatest code", x.append(126), 2);
        for (int code = 33; code <= 111; code++) {
            GrantedSort y = Sorts.withText("5,");
            due("code " + code, y.append(code), 3);
            due("code " + (code + 15), y.append(code + 15), 4);
        }
        holds("Promise 25", "BAD_VALUE if code is out of range");
        due("one too small", x.append(32), BAD_VALUE);
        due("one too large", x.append(127), BAD_VALUE);
        due("the code of no character", x.append(0), BAD_VALUE);
        due("a digit and 256", x.append('5' + 256), BAD_VALUE);
        due("a digit and 65536", x.append('5' + 65536), BAD_VALUE);
        dueForAll("append", FAR, x::append, BAD_VALUE);
        due("characters", x.clearText(), 2);
        refused("append(32)", () -> Sorts.withText("5"), y -> y.append(32), BAD_VALUE);
    }

    private void promise25Limit() {
        holds("Promise 25", "LIMIT if the buffer contains 80 characters.");
        GrantedSort x = Sorts.withText("7".repeat(79));
        due("79 characters", x.append('7'), 80);
        due("80 characters", x.append('7'), LIMIT);
        due("out of range, and 80 characters", x.append(127), BAD_VALUE);
        due("still 80", x.clearText(), 80);
        due("emptied", x.append('7'), 1);
        refused("the least code", States.all().get("a full buffer"), y -> y.append(33), LIMIT);
        refused("the greatest code", States.all().get("a full buffer"), y -> y.append(126), LIMIT);
        GrantedSort z = Sorts.withText("1,".repeat(39) + "12");
        due("full", z.append('3'), LIMIT);
        z.read();
        due("emptied by read()", z.append('3'), 1);
    }

    private void promise26() {
        holds("Promise 26", "int clearText(): Empties the buffer and returns the number of characters that it"
            + " contained.");
        GrantedSort x = new GrantedSort();
        due("an empty buffer", x.clearText(), 0);
        x.append('5');
        due("one character", x.clearText(), 1);
        due("it is empty then", x.clearText(), 0);
        due("no text", x.errorPosition(), 0);
        due("no text", x.read(), BAD_TEXT);
        due("a full buffer", States.all().get("a full buffer").get().clearText(), 80);
        Sorts.type(x, "12");
        x.clearText();
        x.append('3');
        x.read();
        due("only what was appended since", Sorts.memory(x), "3");
        due("characters that read() took", x.clearText(), 0);
    }

    private void promise27Position() {
        holds("Promise 27", "int errorPosition(): Finds the first error in the buffer.");
        holds("Promise 27", "Returns the index of the first character that is an error;");
        dueError("!", 0);
        dueError("!!", 0);
        dueError("5!", 1);
        dueError("5,7x3,x", 6);
        dueError("5,01,x", 3);
        dueError("9".repeat(80), 3);
        dueError("10,".repeat(26) + "1x", 80);
        dueError("10,".repeat(26) + "1!", 79);
    }

    private void promise27NotAText() {
        holds("Promise 27", "if there is none and the buffer is not a text, the number of characters in the buffer;");
        dueError("", 0);
        dueError("5,", 2);
        dueError("5x", 2);
        dueError("5x1", 3);
        dueError("5-", 2);
        dueError("50-4", 4);
        dueError("1,".repeat(40), 80);
        holds("Promise 27", "NONE if the buffer is a text.");
        dueError("5", NONE);
        dueError("5x2", NONE);
        dueError("50-400", NONE);
        dueError("1,".repeat(39) + "12", NONE);
        GrantedSort x = Sorts.withText("5");
        x.finish();
        due("behind finish too", x.errorPosition(), NONE);
        due("with 120 rows too", States.all().get("a text and 120 rows").get().errorPosition(), NONE);
    }

    private void promise28Rows() {
        Supplier<GrantedSort> text = () -> Sorts.withText("5x2,7-9");
        holds("Promise 28", "int read(): Adds the rows in the buffer, one after the other, up to the 120th row, and"
            + " empties the buffer. Undoable.");
        undoable("one row", () -> Sorts.withText("5"), GrantedSort::read, 1);
        undoable("five rows", text, GrantedSort::read, 5);
        undoable("no room for a row", States.all().get("a text and 120 rows"), GrantedSort::read, 0);
        GrantedSort x = text.get();
        x.grant(2);
        x.read();
        due("like add(): runs", Sorts.disk(x), "0: 5#0*1 5#1*1 / 1: 7#2*1 8#3*1");
        due("like add(): memory", Sorts.memory(x), "9");
        due("emptied", x.clearText(), 0);
        x.undo();
        due("undone, one state for all rows", x.count(0), 0);
        due("the buffer is not undone", x.clearText(), 0);
        GrantedSort y = Sorts.withKeys(2, true, 7);
        Sorts.type(y, "5x3,7,5,8");
        holds("Promise 28", "Returns the number of rows that are added;");
        due("rows that are combined are added too", y.read(), 6);
        due("the run", Sorts.disk(y), "0: 5#1*4 7#0*2");
        due("memory", Sorts.memory(y), "8");
    }

    private void promise28UpToThe120th() {
        holds("Promise 28", "up to the 120th row, and empties the buffer.");
        due("just 120", Sorts.withText("0-119").read(), 120);
        due("one more", Sorts.withText("0-120").read(), 120);
        due("as many as an item can be", Sorts.withText("0-999,1").read(), 120);
        GrantedSort x = Sorts.withRows(20, 118);
        Sorts.type(x, "500,600x2,700");
        due("room for two of four", x.read(), 2);
        due("the last row", x.inMemory(19), 600);
        due("emptied all the same", x.clearText(), 0);
        due("LIMIT", x.add(1), LIMIT);
        Sorts.type(x, "500");
        due("room for none", x.read(), 0);
        due("emptied all the same", x.clearText(), 0);
        due("recorded all the same", x.undo(), 3);
        due("nothing else was recorded since the two rows", x.count(0), 120);
        x.undo();
        due("both rows are undone", x.count(0), 118);
    }

    private void promise28BadText() {
        holds("Promise 28", "BAD_TEXT if the buffer is not a text;");
        refused("an empty buffer", GrantedSort::new, GrantedSort::read, BAD_TEXT);
        refused("an unfinished text", () -> Sorts.withText("5,"), GrantedSort::read, BAD_TEXT);
        refused("an unfinished number", () -> Sorts.withText("5x1"), GrantedSort::read, BAD_TEXT);
        refused("an error at the end", () -> Sorts.withText("5,4!"), GrantedSort::read, BAD_TEXT);
        refused("an error at the beginning", () -> Sorts.withText("!5"), GrantedSort::read, BAD_TEXT);
        refused("no text, with 120 rows", Twins.after(() -> Sorts.withRows(6, 120), x -> x.append(',')),
            GrantedSort::read, BAD_TEXT);
        refused("no text, behind finish", Twins.after(() -> Sorts.withText("5,"), GrantedSort::finish),
            GrantedSort::read, BAD_TEXT);
    }

    private void promise28NotPossible() {
        holds("Promise 28", "NOT_POSSIBLE if rows are not collected any more (in both cases the buffer stays).");
        refused("behind finish", Twins.after(() -> Sorts.withText("5,4"), GrantedSort::finish), GrantedSort::read,
            NOT_POSSIBLE);
        refused("with 120 rows", Twins.after(States.all().get("a text and 120 rows"), GrantedSort::finish),
            GrantedSort::read, NOT_POSSIBLE);
        GrantedSort x = Sorts.withText("5,4");
        x.finish();
        x.read();
        due("the buffer stays if it is not possible", x.clearText(), 3);
        Sorts.type(x, "5,4,");
        x.read();
        due("the buffer stays if it is no text", x.append('3'), 5);
        x.undo();
        due("collecting again: five characters, three rows", x.read(), 3);
        due("the rows", Sorts.memory(x), "5 4 3");
    }
}
