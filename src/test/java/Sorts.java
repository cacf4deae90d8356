/** Sorts in the states that tests begin with, and what lies on their disks as a text. */
final class Sorts {
    private Sorts() {
    }

    static GrantedSort withKeys(int memory, boolean isCombining, int... keys) {
        GrantedSort x = new GrantedSort();
        x.combine(isCombining);
        x.grant(memory);
        for (int key : keys) {
            x.add(key);
        }
        return x;
    }

    /** A sort with a run for each key, in the phase of merging. */
    static GrantedSort withRunsOf(int memory, int... keys) {
        GrantedSort x = new GrantedSort();
        for (int key : keys) {
            x.add(key);
            x.flush();
        }
        x.finish();
        x.grant(memory);
        return x;
    }

    /** A sort in the phase of merging with these runs, told as "1 50 / 2 / 3 4". */
    static GrantedSort withRuns(int memory, boolean isCombining, String runs) {
        GrantedSort x = new GrantedSort();
        x.combine(isCombining);
        x.grant(20);
        for (String run : runs.split("/")) {
            for (String key : run.trim().split(" ")) {
                x.add(Integer.parseInt(key));
            }
            x.flush();
        }
        x.finish();
        x.grant(memory);
        return x;
    }

    /** A sort that collects the rows with the keys 0, 1 and so on, read in few calls. */
    static GrantedSort withRows(int memory, int rows) {
        GrantedSort x = new GrantedSort();
        x.grant(memory);
        type(x, rows == 1 ? "0" : "0-" + (rows - 1));
        x.read();
        return x;
    }

    static GrantedSort withText(String text) {
        GrantedSort x = new GrantedSort();
        type(x, text);
        return x;
    }

    static void type(GrantedSort x, String text) {
        x.clearText();
        for (int i = 0; i < text.length(); i++) {
            x.append(text.charAt(i));
        }
    }

    /** The rows of a run, each as key#number*count. */
    static String run(GrantedSort x, int run) {
        StringBuilder text = new StringBuilder();
        int rows = x.size(run);
        for (int i = 0; i < rows; i++) {
            text.append(i == 0 ? "" : " ").append(x.row(run, i, 0));
            text.append('#').append(x.row(run, i, 1)).append('*').append(x.row(run, i, 2));
        }
        return text.toString();
    }

    /** All runs, each as its number and its rows. */
    static String disk(GrantedSort x) {
        StringBuilder text = new StringBuilder();
        int runs = x.runs();
        for (int i = 0; i < runs; i++) {
            int number = x.runAt(i);
            text.append(i == 0 ? "" : " / ").append(number).append(": ").append(run(x, number));
        }
        return text.toString();
    }

    static String runNumbers(GrantedSort x) {
        StringBuilder text = new StringBuilder();
        int runs = x.runs();
        for (int i = 0; i < runs; i++) {
            text.append(i == 0 ? "" : " ").append(x.runAt(i));
        }
        return text.toString();
    }

    /** The keys of the rows in memory. */
    static String memory(GrantedSort x) {
        StringBuilder text = new StringBuilder();
        int key = x.inMemory(0);
        for (int i = 1; i <= 21 && key != GrantedSort.NO_SUCH; i++) {
            text.append(i == 1 ? "" : " ").append(key);
            key = x.inMemory(i);
        }
        return text.toString();
    }
}
