/** Counts the checks of one test program and ends it with exit code 1 if one failed. */
final class Checks {
    private int passed;
    private int failed;
    private String part = "";

    void begin(String name) {
        part = name;
    }

    void same(String what, long got, long due) {
        if (got == due) {
            passed++;
            return;
        }
        failed++;
        // A broken class fails thousands of checks; the first ones tell enough.
        if (failed <= 40) {
            System.out.println(part + ": " + what + " answered " + got + ", due is " + due);
        }
    }

    void same(String what, String got, String due) {
        if (!got.equals(due)) {
            System.out.println(part + ": " + what + " is " + got + ", due is " + due);
        }
        same(what, got.equals(due) ? 1 : 0, 1);
    }

    void holds(String what, boolean is) {
        same(what, is ? 1 : 0, 1);
    }

    void end() {
        System.out.println(passed + " passed, " + failed + " failed");
        if (failed > 0 || passed == 0) {
            System.exit(1);
        }
    }
}
