/** Counts what is as due and tells what is not. */
final class Checks {
    private static final int MOST_TOLD = 40;
    private String about = "";
    private int passed = 0;
    private int failed = 0;

    /** What the checks from here on are about; it is told ahead of each fault. */
    void begin(String what) {
        about = "[" + what + "] ";
    }

    void due(String call, long got, long want) {
        if (got == want) {
            passed++;
        } else {
            tell(call + " answered " + got + ", due is " + want);
        }
    }

    void dueText(String what, String got, String want) {
        if (got.equals(want)) {
            passed++;
        } else {
            tell(what + " is " + got + ", due is " + want);
        }
    }

    void dueBits(String call, long gotBits, double want) {
        due(call + " as bits", gotBits, Double.doubleToLongBits(want));
    }

    void holds(String what, boolean isSo) {
        if (isSo) {
            passed++;
        } else {
            tell("does not hold: " + what);
        }
    }

    private void tell(String fault) {
        failed++;
        if (failed <= MOST_TOLD) {
            System.out.println(about + fault);
        }
    }

    int made() {
        return passed + failed;
    }

    int failed() {
        return failed;
    }

    void end(String name) {
        System.out.println(name + ": " + passed + " checks as due, " + failed + " not");
        if (failed != 0 || passed == 0) {
            System.exit(1);
        }
    }
}
