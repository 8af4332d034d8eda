import java.util.Set;
import java.util.TreeSet;
import java.util.function.Supplier;

/** The sentences of ERRORS, and the one that nothing else is changed. */
final class ErrorTerms extends SentenceGroup {
    ErrorTerms(Checks checks) {
        super(checks);
    }

    @Says(at = "ERRORS", words = "Errors are reported by the constants below.")
    void eachErrorIsOneOfTheConstants() {
        PermanentDesk desk = new PermanentDesk();
        due("clear", desk.clear(8), PermanentDesk.OUT_OF_RANGE);
        due("set, no row", desk.set(3, 0, 1), PermanentDesk.UNKNOWN);
        due("set, no entry", desk.set(0, 0, 21), PermanentDesk.OUT_OF_RANGE);
        due("set, the same", desk.set(0, 0, 0), PermanentDesk.NONE);
        due("entry", desk.entry(0, 3), PermanentDesk.UNKNOWN);
        due("total", desk.total(9), PermanentDesk.OUT_OF_RANGE);
        due("parts", desk.parts(), PermanentDesk.NOT_POSSIBLE);
        due("minor", desk.minor(3, 0), PermanentDesk.LONG_UNKNOWN);
        due("sumOf", desk.sumOf(4), PermanentDesk.LONG_OUT_OF_RANGE);
        due("permanentOf", desk.permanentOf(1, 3), PermanentDesk.LONG_NOT_POSSIBLE);
        Desks.typeAll(desk, "1".repeat(100));
        due("type", desk.type('1'), PermanentDesk.FULL);
    }

    @Says(at = "ERRORS", words = "They are far below all other results.")
    void allOtherResultsAreFarAboveTheErrors() {
        PermanentDesk least = Desks.ofAll(7, -20);
        due("the least sum", least.total(2), -980);
        due("the least line", least.lineSum(6, true), -140);
        due("the least of the best", least.best(true), -140);
        due("the least permanent", least.permanent(), -6451200000000L);
        due("the least sum of permanents", least.sumOf(7), -6451200000000L);
        due("the next to it", least.sumOf(5), -20L * 20 * 20 * 20 * 20 * 441 * 120);
        Desks.typeAll(least, "10,10,10,10,10,10,10/".repeat(5));
        due("the least answer of read", least.read(), -200);
        int[] errors = {UNKNOWN, OUT_OF_RANGE, FULL, NOT_POSSIBLE, NONE};
        for (int error : errors) {
            holds("an error is far below: " + error, error < -1999999999);
        }
        for (long error : new long[] {LONG_UNKNOWN, LONG_OUT_OF_RANGE, LONG_NOT_POSSIBLE}) {
            holds("an error is far below: " + error, error < -8999999999999999999L);
        }
    }

    @Says(at = "ERRORS",
        words = "If several errors apply, the one that stands first in the @return line is returned.")
    void theFirstErrorOfSeveralIsReturned() {
        PermanentDesk zeros = new PermanentDesk();
        for (int line : noLines(3)) {
            for (int entry : new int[] {-21, 21, MIN, MAX}) {
                due("set(" + line + ", 0, " + entry + ")", zeros.set(line, 0, entry), UNKNOWN);
                due("set(0, " + line + ", " + entry + ")", zeros.set(0, line, entry), UNKNOWN);
                due("multiply(" + line + ", " + entry + ")", zeros.multiply(line, entry), UNKNOWN);
            }
            for (int sweeps : new int[] {-1, 0, 50, 51}) {
                due("scaledBits(" + line + ", 0, " + sweeps + ")", zeros.scaledBits(line, 0, sweeps), LONG_UNKNOWN);
                due("scaledBits(0, " + line + ", " + sweeps + ")", zeros.scaledBits(0, line, sweeps), LONG_UNKNOWN);
            }
        }
        PermanentDesk twenties = Desks.of("20,20/20,20");
        for (int factor : new int[] {-10, 10, MIN, MAX}) {
            due("multiply(0, " + factor + ") of 20", twenties.multiply(0, factor), OUT_OF_RANGE);
        }
        for (int number : new int[] {-1, 0, 2, 11, 100, MIN, MAX}) {
            due("add(" + number + ") to 20", twenties.add(number), UNKNOWN);
        }
        for (int set : new int[] {4, 7, 1 << 30, -1, MIN, MAX}) {
            due("permanentOf(" + set + ", 0)", twenties.permanentOf(set, 0), LONG_UNKNOWN);
            due("permanentOf(0, " + set + ")", twenties.permanentOf(0, set), LONG_UNKNOWN);
        }
        for (int sweeps : new int[] {-1, 51, MIN, MAX}) {
            PermanentDesk desk = new PermanentDesk();
            due("scaledBits of zeros", desk.scaledBits(0, 0, sweeps), LONG_OUT_OF_RANGE);
            due("gapBits of zeros", desk.gapBits(sweeps), LONG_OUT_OF_RANGE);
            due("boundBits of zeros", desk.boundBits(sweeps), LONG_OUT_OF_RANGE);
            due("part of zeros", desk.part(sweeps, true), NOT_POSSIBLE);
            due("part of zeros", desk.part(sweeps, false), NOT_POSSIBLE);
        }
        due("scaledBits with 51 sweeps", twenties.scaledBits(2, 0, 51), LONG_UNKNOWN);
        due("scaledBits with 51 sweeps", twenties.scaledBits(0, 2, 51), LONG_UNKNOWN);
    }

    @Says(at = "ERRORS", words = "NONE is not an error; it is returned only if no error applies.")
    void anErrorIsAheadOfNone() {
        PermanentDesk zeros = new PermanentDesk();
        due("swapRows(3, 3)", zeros.swapRows(3, 3), UNKNOWN);
        due("swapRows(-1, -1)", zeros.swapRows(-1, -1), UNKNOWN);
        due("swapRows(0, 3) of zeros", zeros.swapRows(0, 3), UNKNOWN);
        due("swapColumns(3, 3)", zeros.swapColumns(3, 3), UNKNOWN);
        due("swapColumns(-1, -1)", zeros.swapColumns(-1, -1), UNKNOWN);
        due("swapColumns(3, 0) of zeros", zeros.swapColumns(3, 0), UNKNOWN);
        due("multiply(3, 1)", zeros.multiply(3, 1), UNKNOWN);
        due("multiply(0, 10) of zeros", zeros.multiply(0, 10), OUT_OF_RANGE);
        due("multiply(0, -10) of zeros", zeros.multiply(0, -10), OUT_OF_RANGE);
        due("set(3, 0, 0)", zeros.set(3, 0, 0), UNKNOWN);
        due("set(0, -1, 0)", zeros.set(0, -1, 0), UNKNOWN);
        due("wholeDiagonal(-1) where there is none", zeros.wholeDiagonal(-1), OUT_OF_RANGE);
        due("wholeDiagonal(MIN) where there is none", zeros.wholeDiagonal(MIN), OUT_OF_RANGE);
    }

    @Says(at = "ERRORS", words = "A method that returns an error or NONE changes nothing.")
    void whatIsRefusedChangesNothing() {
        Set<String> refused = new TreeSet<>();
        for (Supplier<PermanentDesk> state : States.all()) {
            String before = Desks.portrait(state.get());
            for (NamedCall call : NamedCall.all()) {
                PermanentDesk desk = state.get();
                long answer = call.on(desk);
                if (isRefusal(call, answer)) {
                    refused.add(call.method() + " " + answer);
                    dueText("the desk behind " + call.name(), Desks.portrait(desk), before);
                }
            }
        }
        for (String refusal : REFUSALS) {
            holds("it has been seen: " + refusal, refused.contains(refusal));
        }
        holds("all of them are known: " + refused, refused.size() == REFUSALS.length);
    }

    private static final String[] REFUSALS = {"clear " + OUT_OF_RANGE, "set " + UNKNOWN, "set " + OUT_OF_RANGE,
        "set " + NONE, "swapRows " + UNKNOWN, "swapRows " + NONE, "swapColumns " + UNKNOWN, "swapColumns " + NONE,
        "transpose " + NONE, "multiply " + UNKNOWN, "multiply " + OUT_OF_RANGE, "multiply " + NOT_POSSIBLE,
        "multiply " + NONE, "add " + UNKNOWN, "add " + NOT_POSSIBLE, "type " + FULL, "read -100", "read -101",
        "read -107", "read -200", "undo " + NONE, "restore " + NONE, "entry " + UNKNOWN, "total " + OUT_OF_RANGE,
        "lineSum " + UNKNOWN, "minor " + LONG_UNKNOWN, "permanentOf " + LONG_UNKNOWN,
        "permanentOf " + LONG_NOT_POSSIBLE, "sumOf " + LONG_OUT_OF_RANGE, "wholeDiagonal " + OUT_OF_RANGE,
        "wholeDiagonal " + NONE, "diagonalsThrough " + UNKNOWN, "rooks " + OUT_OF_RANGE, "tooFew " + NONE,
        "scaledBits " + LONG_UNKNOWN, "scaledBits " + LONG_OUT_OF_RANGE, "scaledBits " + LONG_NOT_POSSIBLE,
        "gapBits " + LONG_OUT_OF_RANGE, "gapBits " + LONG_NOT_POSSIBLE, "boundBits " + LONG_OUT_OF_RANGE,
        "boundBits " + LONG_NOT_POSSIBLE, "part " + UNKNOWN, "part " + NOT_POSSIBLE, "parts " + NOT_POSSIBLE};

    private static boolean isRefusal(NamedCall call, long answer) {
        boolean isFault = call.method().equals("read") && answer <= -100;
        boolean isInt = answer <= UNKNOWN && answer >= NONE;
        boolean isLong = answer <= LONG_UNKNOWN && answer >= LONG_NOT_POSSIBLE;
        return isFault || isInt || isLong;
    }

    @Says(at = "Not promised", words = "Nothing is promised beyond the answers and state changes described above")
    void questionsChangeNothing() {
        for (Supplier<PermanentDesk> state : States.all()) {
            String before = Desks.portrait(state.get());
            for (NamedCall call : NamedCall.all()) {
                if (call.isQuestion()) {
                    PermanentDesk desk = state.get();
                    long answer = call.on(desk);
                    due("once more " + call.name(), call.on(desk), answer);
                    dueText("the desk behind " + call.name(), Desks.portrait(desk), before);
                }
            }
        }
    }

    @Says(at = "ERRORS", words = "The constants: `UNKNOWN = -2000000001`: There is no such row, column or part.")
    void unknown() {
        due("UNKNOWN", PermanentDesk.UNKNOWN, -2000000001);
        due("no such row", new PermanentDesk().entry(3, 0), -2000000001);
        due("no such column", new PermanentDesk().entry(0, 3), -2000000001);
        due("no such part", Desks.of("1").part(1, true), -2000000001);
    }

    @Says(at = "ERRORS", words = "`OUT_OF_RANGE = -2000000002`: Another argument is out of its range.")
    void outOfRange() {
        due("OUT_OF_RANGE", PermanentDesk.OUT_OF_RANGE, -2000000002);
        due("clear(0)", new PermanentDesk().clear(0), -2000000002);
        due("rooks(-1)", new PermanentDesk().rooks(-1), -2000000002);
    }

    @Says(at = "ERRORS", words = "`FULL = -2000000003`: There is no more room.")
    void full() {
        due("FULL", PermanentDesk.FULL, -2000000003);
        PermanentDesk desk = new PermanentDesk();
        Desks.typeAll(desk, FULL_MATRIX);
        due("no more room", desk.type('1'), -2000000003);
    }

    @Says(at = "ERRORS", words = "`NOT_POSSIBLE = -2000000004`: This is not possible in the present state.")
    void notPossible() {
        due("NOT_POSSIBLE", PermanentDesk.NOT_POSSIBLE, -2000000004);
        PermanentDesk desk = Desks.of("20");
        due("add(0)", desk.add(0), -2000000004);
        desk.set(0, 0, 19);
        due("add(0) in another state", desk.add(0), 20);
    }

    @Says(at = "ERRORS", words = "`NONE = -2000000005`: There is no such thing; this is not an error.")
    void none() {
        due("NONE", PermanentDesk.NONE, -2000000005);
        due("no state", new PermanentDesk().undo(), -2000000005);
        due("no snapshot", new PermanentDesk().restore(), -2000000005);
        due("no whole diagonal", new PermanentDesk().wholeDiagonal(0), -2000000005);
    }

    @Says(at = "ERRORS", words = {
        "`LONG_UNKNOWN = -9000000000000000001L, LONG_OUT_OF_RANGE = -9000000000000000002L, LONG_NOT_POSSIBLE ="
            + " -9000000000000000004L`:",
        "As UNKNOWN, OUT_OF_RANGE and NOT_POSSIBLE, for methods that return a long."})
    void longErrors() {
        due("LONG_UNKNOWN", PermanentDesk.LONG_UNKNOWN, -9000000000000000001L);
        due("LONG_OUT_OF_RANGE", PermanentDesk.LONG_OUT_OF_RANGE, -9000000000000000002L);
        due("LONG_NOT_POSSIBLE", PermanentDesk.LONG_NOT_POSSIBLE, -9000000000000000004L);
        PermanentDesk desk = new PermanentDesk();
        due("minor(3, 0)", desk.minor(3, 0), -9000000000000000001L);
        due("permanentOf(8, 1)", desk.permanentOf(8, 1), -9000000000000000001L);
        due("scaledBits(3, 0, 0)", desk.scaledBits(3, 0, 0), -9000000000000000001L);
        due("sumOf(4)", desk.sumOf(4), -9000000000000000002L);
        due("scaledBits(0, 0, 51)", desk.scaledBits(0, 0, 51), -9000000000000000002L);
        due("gapBits(51)", desk.gapBits(51), -9000000000000000002L);
        due("boundBits(51)", desk.boundBits(51), -9000000000000000002L);
        due("permanentOf(1, 3)", desk.permanentOf(1, 3), -9000000000000000004L);
        due("scaledBits(0, 0, 0)", desk.scaledBits(0, 0, 0), -9000000000000000004L);
        due("gapBits(0)", desk.gapBits(0), -9000000000000000004L);
        due("boundBits(0)", desk.boundBits(0), -9000000000000000004L);
    }
}
