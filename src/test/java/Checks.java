/** Counts what is as due and tells what is not. */
final class Checks {
    private static final int MOST_TOLD = 40;
    private int passed = 0;
    private int failed = 0;

    void due(String call, long got, long want) {
        if (got == want) {
            passed++;
        } else {
            tell(call + " answered " + got + ", due is " + want);
        }
    }

    void dueBits(String call, long gotBits, double want) {
        due(call + " as bits", gotBits, Double.doubleToLongBits(want));
    }

    void holds(String what, boolean isSo) {
        if (isSo) {
            passed++;
        } else {
            tell("does not hold: " + what);
        }
    }

    private void tell(String fault) {
        failed++;
        if (failed <= MOST_TOLD) {
            System.out.println(fault);
        }
    }

    int failed() {
        return failed;
    }

    void end(String name) {
        System.out.println(name + ": " + passed + " checks as due, " + failed + " not");
        if (failed != 0 || passed == 0) {
            System.exit(1);
        }
    }
}
