import java.util.Arrays;

/** Tests of sentences of the document, each a method with the annotation Says. */
abstract class SentenceGroup {
    static final int UNKNOWN = PermanentDesk.UNKNOWN;
    static final int OUT_OF_RANGE = PermanentDesk.OUT_OF_RANGE;
    static final int FULL = PermanentDesk.FULL;
    static final int NOT_POSSIBLE = PermanentDesk.NOT_POSSIBLE;
    static final int NONE = PermanentDesk.NONE;
    static final long LONG_UNKNOWN = PermanentDesk.LONG_UNKNOWN;
    static final long LONG_OUT_OF_RANGE = PermanentDesk.LONG_OUT_OF_RANGE;
    static final long LONG_NOT_POSSIBLE = PermanentDesk.LONG_NOT_POSSIBLE;

    static final int MIN = Integer.MIN_VALUE;
    static final int MAX = Integer.MAX_VALUE;
    static final int MOST_ROWS = 7;
    static final String ZEROS = "0,0,0/0,0,0/0,0,0";
    static final String ONE_TO_NINE = "1,2,3/4,5,6/7,8,9";

    /** A text of a matrix that has just 100 characters. */
    static final String FULL_MATRIX = "10,20,-1,1,2,3,4/" + "5,6,7,8,9,0,1/".repeat(5) + "1,2,3,4,5,6,7";

    private final Checks checks;

    SentenceGroup(Checks checks) {
        this.checks = checks;
    }

    void due(String call, long got, long want) {
        checks.due(call, got, want);
    }

    void dueBits(String call, long gotBits, double want) {
        checks.dueBits(call, gotBits, want);
    }

    void dueText(String what, String got, String want) {
        checks.dueText(what, got, want);
    }

    void holds(String what, boolean isSo) {
        checks.holds(what, isSo);
    }

    void dueMatrix(String what, PermanentDesk desk, String want) {
        checks.dueText("the matrix at " + what, Desks.matrix(desk), want);
    }

    /** Numbers that are no lines; some would come to be lines if a shift or a cast cut them. */
    static int[] noLines(int rows) {
        int[] lines = {-1, -rows, 8, 32, 33, 64, 256, 1 << 16, 1 << 30, MIN, MIN + 1, MAX, rows};
        return rows == MOST_ROWS ? lines : with(lines, MOST_ROWS);
    }

    /** Numbers that are not from 0 to the number of rows. */
    static int[] noCounts(int rows) {
        return new int[] {-1, -rows, rows + 1, 8, 9, 32, 33, 256, 1 << 16, 1 << 30, MIN, MIN + 1, MAX};
    }

    private static int[] with(int[] numbers, int last) {
        int[] all = Arrays.copyOf(numbers, numbers.length + 1);
        all[numbers.length] = last;
        return all;
    }

    /** The call on a desk with this matrix, at the last row and column, and its refusal next to all lines there are. */
    void dueLines(String name, LineCall call, long error) {
        for (int rows = 1; rows <= MOST_ROWS; rows++) {
            for (int line = 0; line < rows; line++) {
                long answer = call.on(Desks.ofAll(rows, 1), line, rows - 1);
                holds(name + " takes the line " + line + " of " + rows, answer != error);
            }
            for (int line : noLines(rows)) {
                due(name + " at " + line + " of " + rows, call.on(Desks.ofAll(rows, 1), line, rows - 1), error);
            }
        }
    }

    /** A call with a line; the other line is one that there is. */
    interface LineCall {
        long on(PermanentDesk desk, int line, int other);
    }

    /** The call makes one matrix another, and records the state before it, which undo brings back. */
    void dueChange(String name, String before, Call call, String after) {
        PermanentDesk desk = Desks.of(before);
        call.on(desk);
        dueMatrix(name, desk, after);
        due("total(7) behind " + name, desk.total(7), 2);
        due("undo() behind " + name, desk.undo(), 1);
        dueMatrix("undo() behind " + name, desk, before);
        due("undo() once more behind " + name, desk.undo(), 0);
        dueMatrix("undo() once more behind " + name, desk, ZEROS);
    }

    /** The call is refused, and nothing is changed or recorded. */
    void dueRefused(String name, String matrix, Call call, long answer) {
        PermanentDesk desk = Desks.of(matrix);
        due(name + " of " + matrix, call.on(desk), answer);
        dueMatrix("refused " + name, desk, matrix);
        due("total(7) behind refused " + name, desk.total(7), 1);
    }

    /** It is read, or refused, and the text stays. */
    void dueRead(String text, int want) {
        PermanentDesk desk = new PermanentDesk();
        desk.set(1, 1, 1);
        Desks.typeAll(desk, text);
        due("read() of " + text, desk.read(), want);
        due("total(8) behind read() of " + text, desk.total(8), text.length());
        dueMatrix("read() of " + text, desk, want > 0 ? text : "0,0,0/0,1,0/0,0,0");
        due("total(7) behind read() of " + text, desk.total(7), want > 0 ? 2 : 1);
    }

    /** The character at this place is not allowed there. */
    void dueFault(String text, int fault) {
        dueRead(text, -100 - fault);
    }

    /** The last character is not allowed there, and all ahead of it is. */
    void dueLastIsFault(String text) {
        dueFault(text, text.length() - 1);
    }

    void dueEndsTooEarly(String text) {
        dueFault(text, text.length());
    }

    /** The matrix is 1,2/3,4. */
    void dueOneSweepOfTwoRows(PermanentDesk desk) {
        double a = 1.0 / 3.0, b = 2.0 / 3.0, c = 3.0 / 7.0, d = 4.0 / 7.0;
        dueBits("(0, 0) behind one sweep", desk.scaledBits(0, 0, 1), a / (a + c));
        dueBits("(0, 1) behind one sweep", desk.scaledBits(0, 1, 1), b / (b + d));
        dueBits("(1, 0) behind one sweep", desk.scaledBits(1, 0, 1), c / (a + c));
        dueBits("(1, 1) behind one sweep", desk.scaledBits(1, 1, 1), d / (b + d));
    }
}
