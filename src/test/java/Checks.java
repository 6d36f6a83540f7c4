/** Counts the checks of the tests and prints those that fail. */
final class Checks {
    private int passed;
    private int failed;

    void due(String what, long got, long want) {
        if (got == want) {
            passed++;
            return;
        }
        failed++;
        System.out.println(what + ": got " + got + ", due is " + want);
    }

    void holds(String what, boolean right) {
        due(what, right ? 1 : 0, 1);
    }

    int failed() {
        return failed;
    }

    void end() {
        System.out.println(passed + " passed, " + failed + " failed");
        if (failed > 0) {
            System.exit(1);
        }
    }
}
