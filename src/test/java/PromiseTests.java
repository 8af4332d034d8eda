/** Each promise of the document by itself: ordinary inputs, the edges that it names, and wrong inputs. */
public final class PromiseTests {
    private static final int UNKNOWN = -2000000001;
    private static final int OUT_OF_RANGE = -2000000002;
    private static final int FULL = -2000000003;
    private static final int NOT_POSSIBLE = -2000000004;
    private static final int NONE = -2000000005;
    private static final long LONG_UNKNOWN = -9000000000000000001L;
    private static final long LONG_OUT_OF_RANGE = -9000000000000000002L;
    private static final long LONG_NOT_POSSIBLE = -9000000000000000004L;
    private static final int[] NO_LINES = {-1, 3, 7, Integer.MIN_VALUE, Integer.MAX_VALUE};

    private static final Checks CHECKS = new Checks();

    private static void due(String call, long got, long want) {
        CHECKS.due(call, got, want);
    }

    /** A desk whose matrix is that of the text, which is empty then; the history holds one state. */
    private static PermanentDesk deskOf(String text) {
        PermanentDesk desk = new PermanentDesk();
        typeAll(desk, text);
        CHECKS.holds("the text can be read: " + text, desk.read() > 0);
        desk.clearText();
        return disturbed(desk);
    }

    /** The last thing that it did is a change that was taken back: no later change may begin with what that left. */
    private static PermanentDesk disturbed(PermanentDesk desk) {
        desk.clear(1 + desk.total(0) % 7);
        desk.undo();
        return desk;
    }

    /** The same calls for the slow desk, which then has the same matrix. */
    private static SlowDesk slowDeskOf(String text) {
        SlowDesk desk = new SlowDesk();
        for (int i = 0; i < text.length(); i++) {
            desk.type(text.charAt(i));
        }
        desk.read();
        return desk;
    }

    private static void typeAll(PermanentDesk desk, String text) {
        for (int i = 0; i < text.length(); i++) {
            desk.type(text.charAt(i));
        }
    }

    private static void dueMatrix(String what, PermanentDesk desk, int[][] want) {
        due(what + ": rows", desk.total(0), want.length);
        for (int r = 0; r < want.length; r++) {
            for (int c = 0; c < want.length; c++) {
                due(what + ": entry(" + r + ", " + c + ")", desk.entry(r, c), want[r][c]);
            }
        }
    }

    private static void dueMatrix(String what, PermanentDesk desk, String rows) {
        String[] lines = rows.split("/");
        int[][] want = new int[lines.length][lines.length];
        for (int r = 0; r < want.length; r++) {
            String[] entries = lines[r].split(",");
            for (int c = 0; c < want.length; c++) {
                want[r][c] = Integer.parseInt(entries[c]);
            }
        }
        dueMatrix(what, desk, want);
    }

    private static void promise1NewObject() {
        PermanentDesk desk = new PermanentDesk();
        dueMatrix("new", desk, "0,0,0/0,0,0/0,0,0");
        due("new: total(7)", desk.total(7), 0);
        due("new: total(8)", desk.total(8), 0);
        due("new: undo()", desk.undo(), NONE);
        due("new: restore()", desk.restore(), NONE);
        due("new: read()", desk.read(), -100);
        PermanentDesk other = new PermanentDesk();
        desk.set(0, 0, 5);
        due("another object", other.entry(0, 0), 0);
    }

    private static void promise2Clear() {
        PermanentDesk desk = deskOf("1,2/3,4");
        due("clear(0)", desk.clear(0), OUT_OF_RANGE);
        due("clear(8)", desk.clear(8), OUT_OF_RANGE);
        due("clear(-1)", desk.clear(-1), OUT_OF_RANGE);
        due("clear(MIN)", desk.clear(Integer.MIN_VALUE), OUT_OF_RANGE);
        due("clear(MAX)", desk.clear(Integer.MAX_VALUE), OUT_OF_RANGE);
        dueMatrix("refused clear", desk, "1,2/3,4");
        due("refused clear records nothing", desk.total(7), 1);
        due("clear(2)", desk.clear(2), 2);
        dueMatrix("clear(2)", desk, "0,0/0,0");
        due("clear(7)", desk.clear(7), 2);
        dueMatrix("clear(7)", desk, new int[7][7]);
        due("clear(1)", desk.clear(1), 7);
        dueMatrix("clear(1)", desk, "0");
        due("a cleared desk without a change records too", desk.clear(1), 1);
        due("total(7)", desk.total(7), 4);
        due("undo()", desk.undo(), 3);
        due("undo()", desk.undo(), 2);
        dueMatrix("undone clear", desk, new int[7][7]);
        PermanentDesk shrunk = deskOf("1,2,3/4,5,6/7,8,9");
        shrunk.clear(2);
        shrunk.clear(3);
        dueMatrix("nothing comes back", shrunk, "0,0,0/0,0,0/0,0,0");
    }

    private static void promise3Set() {
        PermanentDesk desk = new PermanentDesk();
        due("set(0, 2, 20)", desk.set(0, 2, 20), 0);
        due("set(0, 2, -20)", desk.set(0, 2, -20), 20);
        due("set(0, 2, -20)", desk.set(0, 2, -20), NONE);
        disturbed(desk);
        due("set(2, 0, 7)", desk.set(2, 0, 7), 0);
        due("set(2, 0, 0)", desk.set(2, 0, 0), 7);
        dueMatrix("set", desk, "0,0,-20/0,0,0/0,0,0");
        due("NONE records nothing", desk.total(7), 4);
        for (int line : NO_LINES) {
            due("set(" + line + ", 0, 1)", desk.set(line, 0, 1), UNKNOWN);
            due("set(0, " + line + ", 1)", desk.set(0, line, 1), UNKNOWN);
            due("set(" + line + ", 0, 21)", desk.set(line, 0, 21), UNKNOWN);
        }
        for (int entry : new int[] {21, -21, Integer.MIN_VALUE, Integer.MAX_VALUE}) {
            due("set(0, 0, " + entry + ")", desk.set(0, 0, entry), OUT_OF_RANGE);
        }
        dueMatrix("refused set", desk, "0,0,-20/0,0,0/0,0,0");
        due("undo()", desk.undo(), 3);
        due("undone set", desk.entry(2, 0), 7);
    }

    private static void promise4SwapRows() {
        PermanentDesk desk = deskOf("1,2,3/1,5,3/0,0,0");
        due("swapRows(0, 1)", desk.swapRows(0, 1), 2);
        dueMatrix("swapRows(0, 1)", disturbed(desk), "1,5,3/1,2,3/0,0,0");
        due("swapRows(2, 0)", desk.swapRows(2, 0), 6);
        dueMatrix("swapRows(2, 0)", desk, "0,0,0/1,2,3/1,5,3");
        due("swapRows(1, 1)", desk.swapRows(1, 1), NONE);
        due("records", desk.total(7), 3);
        for (int line : NO_LINES) {
            due("swapRows(" + line + ", 0)", desk.swapRows(line, 0), UNKNOWN);
            due("swapRows(0, " + line + ")", desk.swapRows(0, line), UNKNOWN);
            due("swapRows(" + line + ", " + line + ")", desk.swapRows(line, line), UNKNOWN);
        }
        due("like rows", deskOf("4,5/4,5").swapRows(0, 1), NONE);
        due("undo()", desk.undo(), 2);
        dueMatrix("undone swapRows", desk, "1,5,3/1,2,3/0,0,0");
    }

    private static void promise5SwapColumns() {
        PermanentDesk desk = deskOf("1,1,0/2,5,0/3,3,0");
        due("swapColumns(0, 1)", desk.swapColumns(0, 1), 2);
        dueMatrix("swapColumns(0, 1)", desk, "1,1,0/5,2,0/3,3,0");
        due("swapColumns(2, 1)", desk.swapColumns(2, 1), 6);
        dueMatrix("swapColumns(2, 1)", desk, "1,0,1/5,0,2/3,0,3");
        due("swapColumns(2, 2)", desk.swapColumns(2, 2), NONE);
        due("records", desk.total(7), 3);
        for (int line : NO_LINES) {
            due("swapColumns(" + line + ", 0)", desk.swapColumns(line, 0), UNKNOWN);
            due("swapColumns(0, " + line + ")", desk.swapColumns(0, line), UNKNOWN);
            due("swapColumns(" + line + ", " + line + ")", desk.swapColumns(line, line), UNKNOWN);
        }
        due("like columns", deskOf("4,4/5,5").swapColumns(0, 1), NONE);
        due("undo()", desk.undo(), 2);
        dueMatrix("undone swapColumns", desk, "1,1,0/5,2,0/3,3,0");
    }

    private static void promise6Transpose() {
        PermanentDesk desk = deskOf("1,2,3/4,5,6/3,6,9");
        due("transpose()", desk.transpose(), 2);
        dueMatrix("transpose()", desk, "1,4,3/2,5,6/3,6,9");
        due("total(7)", desk.total(7), 2);
        due("undo()", desk.undo(), 1);
        dueMatrix("undone transpose", desk, "1,2,3/4,5,6/3,6,9");
        PermanentDesk symmetric = deskOf("1,2/2,3");
        due("symmetric transpose()", symmetric.transpose(), NONE);
        due("NONE records nothing", symmetric.total(7), 1);
        due("one row", deskOf("5").transpose(), NONE);
    }

    private static void promise7Multiply() {
        PermanentDesk desk = deskOf("2,0,-2/10,-10,1/3,0,0");
        due("multiply(0, 9)", desk.multiply(0, 9), 2);
        due("multiply(0, 1)", desk.multiply(0, 1), NONE);
        due("multiply(1, -2)", desk.multiply(1, -2), 3);
        due("multiply(1, 2)", desk.multiply(1, 2), NOT_POSSIBLE);
        due("multiply(2, 7)", desk.multiply(2, 7), NOT_POSSIBLE);
        due("multiply(2, -7)", desk.multiply(2, -7), NOT_POSSIBLE);
        due("multiply(2, -9)", desk.multiply(2, -9), NOT_POSSIBLE);
        due("multiply(2, 10)", desk.multiply(2, 10), OUT_OF_RANGE);
        due("multiply(2, -10)", desk.multiply(2, -10), OUT_OF_RANGE);
        due("multiply(0, MIN)", desk.multiply(0, Integer.MIN_VALUE), OUT_OF_RANGE);
        due("multiply(0, MAX)", desk.multiply(0, Integer.MAX_VALUE), OUT_OF_RANGE);
        for (int line : NO_LINES) {
            due("multiply(" + line + ", 1)", desk.multiply(line, 1), UNKNOWN);
            due("multiply(" + line + ", 10)", desk.multiply(line, 10), UNKNOWN);
        }
        dueMatrix("multiply", desk, "18,0,-18/-20,20,-2/3,0,0");
        due("records", desk.total(7), 3);
        due("multiply(2, 0)", desk.multiply(2, 0), 1);
        due("multiply(2, 0)", desk.multiply(2, 0), NONE);
        due("multiply(2, 9)", desk.multiply(2, 9), NONE);
        due("undo()", desk.undo(), 3);
        due("undone multiply", desk.entry(2, 0), 3);
        PermanentDesk late = deskOf("1,1,20/0,0,0/0,0,0");
        due("only the last entry is too great", late.multiply(0, 2), NOT_POSSIBLE);
        dueMatrix("refused multiply", late, "1,1,20/0,0,0/0,0,0");
    }

    private static void promise8Add() {
        PermanentDesk desk = deskOf("19,0,0/0,0,-20/0,5,0");
        due("add(21)", desk.add(21), 20 - 19 + 6);
        dueMatrix("add(21)", desk, "20,0,0/0,0,-19/0,6,0");
        due("add(21)", desk.add(21), NOT_POSSIBLE);
        due("add(12)", desk.add(12), NOT_POSSIBLE);
        due("add(210)", desk.add(210), 3);
        dueMatrix("add(210)", desk, "20,0,1/0,1,-19/1,6,0");
        int[] none = {-1, 0, 1, 3, 11, 13, 22, 100, 123, 211, 1012, 10012, 210210, -12, -210,
            Integer.MIN_VALUE, Integer.MAX_VALUE};
        for (int number : none) {
            due("add(" + number + ")", desk.add(number), UNKNOWN);
        }
        due("records", desk.total(7), 3);
        due("undo()", desk.undo(), 2);
        dueMatrix("undone add", desk, "20,0,0/0,0,-19/0,6,0");
        for (int row = 0; row < 7; row++) {
            PermanentDesk high = new PermanentDesk();
            high.clear(7);
            high.set(row, 6 - row, 20);
            due("20 in the row " + row, high.add(6543210), NOT_POSSIBLE);
            high.set(row, 6 - row, 19);
            due("19 in the row " + row, high.add(6543210), 26);
        }
        PermanentDesk one = deskOf("19");
        due("one row: add(0)", one.add(0), 20);
        due("one row: add(0)", one.add(0), NOT_POSSIBLE);
        due("one row: add(1)", one.add(1), UNKNOWN);
        due("one row: add(10)", one.add(10), UNKNOWN);
        due("UNKNOWN is ahead of NOT_POSSIBLE", one.add(-1), UNKNOWN);
        PermanentDesk seven = new PermanentDesk();
        seven.clear(7);
        due("add(123456)", seven.add(123456), 7);
        due("add(6543210)", seven.add(6543210), 8);
        due("add(1234567)", seven.add(1234567), UNKNOWN);
        due("add(10123456)", seven.add(10123456), UNKNOWN);
    }

    private static void promise9Type() {
        PermanentDesk desk = new PermanentDesk();
        due("type('1')", desk.type('1'), 1);
        due("type((char) 0)", desk.type((char) 0), 2);
        due("type((char) 65535)", desk.type((char) 65535), 3);
        due("type is no change", desk.total(7), 0);
        for (int length = 4; length <= 100; length++) {
            due("type(' ')", desk.type(' '), length);
        }
        due("type('1') on a full text", desk.type('1'), FULL);
        due("type((char) 255) on a full text", desk.type((char) 255), FULL);
        due("total(8)", desk.total(8), 100);
    }

    private static void promise10ClearText() {
        PermanentDesk desk = new PermanentDesk();
        due("clearText()", desk.clearText(), 0);
        typeAll(desk, "1,2/3,4");
        due("clearText()", desk.clearText(), 7);
        due("clearText()", desk.clearText(), 0);
        due("total(8)", desk.total(8), 0);
        due("clearText is no change", desk.total(7), 0);
        due("read()", desk.read(), -100);
        due("type('7')", desk.type('7'), 1);
        due("read()", desk.read(), 1);
        due("entry(0, 0)", desk.entry(0, 0), 7);
        typeAll(desk, "x".repeat(200));
        due("clearText()", desk.clearText(), 100);
        due("type('7')", desk.type('7'), 1);
    }

    private static void dueRead(String text, int want) {
        PermanentDesk desk = new PermanentDesk();
        desk.set(1, 1, 1);
        typeAll(desk, text);
        due("read() of " + text, desk.read(), want);
        due("the text stays: " + text, desk.total(8), text.length());
        if (want > 0) {
            dueMatrix("read() of " + text, desk, text);
            due("read() is recorded: " + text, desk.total(7), 2);
        } else {
            dueMatrix("refused read() of " + text, desk, "0,0,0/0,1,0/0,0,0");
            due("refused read() is not recorded: " + text, desk.total(7), 1);
        }
    }

    private static void promise11Read() {
        String[] good = {"0", "5", "-7", "20", "-20", "10", "19", "-19", "1,2/3,4", "0,0/0,0", "-1,20/-20,0",
            "1,2,3/4,5,6/7,8,9", "1,1,1,1,1,1,1/".repeat(6) + "2,3,4,5,6,7,8"};
        for (String text : good) {
            dueRead(text, text.split("/").length);
        }
        dueFaults(new String[] {"", "-", "1,", "1,2", "1,2/", "1,2/3", "1,2/3,", "1,2/3,-", "0,0,0/0,0,0/0,0",
            "1,2,3,4,5,6,7", "1,2,3,4,5,6,7/", "-1,-1/-1,-"}, 0);
        // Here the last character is the one that is not allowed.
        dueFaults(new String[] {"/", ",", "x", " ", "+", "--", "-0", "-x", "-,", "-/", "00", "01", "21", "29", "30",
            "99", "100", "200", "-21", "-200", "1-", "1x", "1 ", "1/", "1,,", "1,/", "1,x", "1,2/3/", "1,2/3,4/",
            "1,2/3,4,", "1,2//", "1,2/,", "1,2/3,4x", "1,2/-0", "1,2,3,4,5,6,7,", "1,2,3,4,5,6,7/1,1,1,1,1,1,1,",
            "1,2/3,21", "1,2/3,00", "123", "1\u0000", "\u0661", "\uff11", "1\u012c", "20/", "1,2/3x"}, 1);
        dueRead("1,2/3,4/5,6", -107);
        dueRead("1,,2x", -102);
        dueRead("x-0", -100);
        dueRead("1,2,3,4,5,6,7,8", -113);
        dueRead("-05", -101);
        dueRead("1,2/3/4", -105);
        PermanentDesk again = new PermanentDesk();
        typeAll(again, "9");
        due("read()", again.read(), 1);
        due("read() once more", again.read(), 1);
        due("it is recorded too", again.total(7), 2);
        due("undo()", again.undo(), 1);
        due("undo()", again.undo(), 0);
        dueMatrix("undone read", again, "0,0,0/0,0,0/0,0,0");
        dueFullText();
        PermanentDesk many = new PermanentDesk();
        for (String text : good) {
            many.clearText();
            typeAll(many, text);
            many.read();
            dueMatrix("one text behind another", many, text);
            typeAll(many, "x");
            due("a fault behind another text", many.read(), -100 - text.length());
        }
    }

    /** The fault is the length of the text less so many. */
    private static void dueFaults(String[] texts, int less) {
        for (String text : texts) {
            dueRead(text, -100 - (text.length() - less));
        }
    }

    private static void dueFullText() {
        PermanentDesk desk = new PermanentDesk();
        typeAll(desk, ("10,10,10,10,10,10,10/").repeat(5));
        due("total(8)", desk.total(8), 100);
        due("a full text that ends too early", desk.read(), -200);
        desk.clearText();
        typeAll(desk, "1,1,1,1,1,1,1/".repeat(7));
        due("a 98th character", desk.read(), -197);
    }

    private static void promise12Undo() {
        PermanentDesk desk = new PermanentDesk();
        due("undo()", desk.undo(), NONE);
        for (int value = 1; value <= 6; value++) {
            desk.set(0, 0, value);
            due("total(7)", desk.total(7), Math.min(value, 4));
        }
        for (int value = 5; value >= 2; value--) {
            due("undo()", desk.undo(), value - 2);
            due("entry(0, 0)", desk.entry(0, 0), value);
        }
        due("the oldest ones are dropped", desk.undo(), NONE);
        due("entry(0, 0)", desk.entry(0, 0), 2);
        desk.set(0, 0, 9);
        desk.clear(5);
        due("undo()", desk.undo(), 1);
        dueMatrix("undo()", desk, "9,0,0/0,0,0/0,0,0");
        typeAll(desk, "12");
        due("undo()", desk.undo(), 0);
        due("the text is no part of the state", desk.total(8), 2);
        ringOfStates();
    }

    /** Changes and undos in turn, so that each place of the history is the oldest one at some time. */
    private static void ringOfStates() {
        PermanentDesk desk = new PermanentDesk();
        int value = 0;
        for (int round = 0; round < 9; round++) {
            for (int change = 0; change < 5; change++) {
                value = value % 20 + 1;
                desk.set(1, 1, value);
            }
            int before = desk.entry(1, 1);
            for (int back = 1; back <= 1 + round % 4; back++) {
                due("undo()", desk.undo(), 4 - back);
                due("round " + round, desk.entry(1, 1), (before - back + 19) % 20 + 1);
            }
            value = desk.entry(1, 1);
        }
    }

    private static void promise13Keep() {
        PermanentDesk desk = deskOf("1,2/3,4");
        due("keep()", desk.keep(), 2);
        due("keep is no change", desk.total(7), 1);
        desk.clear(5);
        due("keep()", desk.keep(), 5);
        desk.undo();
        dueMatrix("undo leaves the snapshot", desk, "1,2/3,4");
        due("the later snapshot counts", desk.restore(), 5);
        dueMatrix("restore()", desk, new int[5][5]);
        desk.set(0, 0, 1);
        desk.restore();
        due("a snapshot is a copy", desk.entry(0, 0), 0);
    }

    private static void promise14Restore() {
        PermanentDesk desk = deskOf("1,2/3,4");
        due("restore()", desk.restore(), NONE);
        due("NONE records nothing", desk.total(7), 1);
        desk.keep();
        due("restore() of the same", desk.restore(), 2);
        due("it is recorded", desk.total(7), 2);
        desk.clear(7);
        due("restore()", desk.restore(), 2);
        dueMatrix("restore()", desk, "1,2/3,4");
        due("undo()", desk.undo(), 3);
        dueMatrix("undone restore", desk, new int[7][7]);
        due("the snapshot stays", desk.restore(), 2);
        dueMatrix("restore()", desk, "1,2/3,4");
        typeAll(desk, "5");
        desk.restore();
        due("the text is no part of the state", desk.total(8), 1);
    }

    private static void promise15Entry() {
        PermanentDesk desk = deskOf("1,2,3/-4,5,6/7,8,-20");
        due("entry(0, 2)", desk.entry(0, 2), 3);
        due("entry(2, 0)", desk.entry(2, 0), 7);
        due("entry(2, 2)", desk.entry(2, 2), -20);
        for (int line : NO_LINES) {
            due("entry(" + line + ", 0)", desk.entry(line, 0), UNKNOWN);
            due("entry(0, " + line + ")", desk.entry(0, line), UNKNOWN);
        }
        desk.clear(1);
        due("entry(0, 1)", desk.entry(0, 1), UNKNOWN);
        due("entry(1, 0)", desk.entry(1, 0), UNKNOWN);
    }

    private static void dueTotals(String text, int... want) {
        PermanentDesk desk = deskOf(text);
        for (int what = 0; what < want.length; what++) {
            due("total(" + what + ") of " + text, desk.total(what), want[what]);
        }
    }

    private static void promise16Total() {
        dueTotals("1,2,3/-4,5,0/7,0,-20", 3, 7, -6, 7, -20, 0, 0, 1, 0);
        dueTotals("-3,-2/-2,-3", 2, 4, -10, -2, -3, 1, 1, 1, 0);
        dueTotals("0,0/0,0", 2, 0, 0, 0, 0, 1, 1, 1, 0);
        dueTotals("1,2/2,1", 2, 4, 6, 2, 1, 1, 1, 1, 0);
        dueTotals("1,2/2,3", 2, 4, 8, 3, 1, 1, 0, 1, 0);
        dueTotals("1,2/1,2", 2, 4, 6, 2, 1, 0, 0, 1, 0);
        dueTotals("1,1/2,2", 2, 4, 6, 2, 1, 0, 0, 1, 0);
        dueTotals("0,1,0/0,0,1/1,0,0", 3, 3, 3, 1, 0, 0, 1, 1, 0);
        dueTotals("-7", 1, 1, -7, -7, -7, 1, 1, 1, 0);
        dueTotals("7", 1, 1, 7, 7, 7, 1, 1, 1, 0);
        extremesAtEachPlace();
        PermanentDesk desk = new PermanentDesk();
        for (int what : new int[] {-1, 9, 100, Integer.MIN_VALUE, Integer.MAX_VALUE}) {
            due("total(" + what + ")", desk.total(what), OUT_OF_RANGE);
        }
        typeAll(desk, "abc");
        due("total(8)", desk.total(8), 3);
    }

    private static void extremesAtEachPlace() {
        for (int cell = 0; cell < 9; cell++) {
            PermanentDesk desk = new PermanentDesk();
            desk.set(cell / 3, cell % 3, 1);
            due("total(3), cell " + cell, desk.total(3), 1);
            due("total(4), cell " + cell, desk.total(4), 0);
            desk.set(cell / 3, cell % 3, -1);
            due("total(3), cell " + cell, desk.total(3), 0);
            due("total(4), cell " + cell, desk.total(4), -1);
            due("total(1), cell " + cell, desk.total(1), 1);
            due("total(2), cell " + cell, desk.total(2), -1);
            due("total(5), cell " + cell, desk.total(5), cell % 4 == 0 ? 1 : 0);
            due("total(6), cell " + cell, desk.total(6), 0);
        }
    }

    private static void promise17LineSum() {
        PermanentDesk desk = deskOf("1,2,3/-4,5,6/7,8,-20");
        int[] rows = {6, 7, -5};
        int[] columns = {4, 15, -11};
        for (int line = 0; line < 3; line++) {
            due("lineSum(" + line + ", false)", desk.lineSum(line, false), rows[line]);
            due("lineSum(" + line + ", true)", desk.lineSum(line, true), columns[line]);
        }
        for (int line : NO_LINES) {
            due("lineSum(" + line + ", false)", desk.lineSum(line, false), UNKNOWN);
            due("lineSum(" + line + ", true)", desk.lineSum(line, true), UNKNOWN);
        }
    }

    private static PermanentDesk deskOfAll(int rows, int entry) {
        PermanentDesk desk = new PermanentDesk();
        desk.clear(rows);
        for (int r = 0; r < rows; r++) {
            for (int c = 0; c < rows; c++) {
                desk.set(r, c, entry);
            }
        }
        return desk;
    }

    private static void promise18Permanent() {
        due("1", deskOf("-9").permanent(), -9);
        due("2", deskOf("1,2/3,4").permanent(), 10);
        due("3", deskOf("1,2,3/4,5,6/7,8,9").permanent(), 450);
        due("zeros", new PermanentDesk().permanent(), 0);
        due("7 rows of 20", deskOfAll(7, 20).permanent(), 5040L * 1280000000L);
        due("7 rows of -20", deskOfAll(7, -20).permanent(), -5040L * 1280000000L);
        due("6 rows of -1", deskOfAll(6, -1).permanent(), 720);
        due("a cancelled sum", deskOf("1,1/1,-1").permanent(), 0);
    }

    private static void promise19Determinant() {
        due("1", deskOf("-9").determinant(), -9);
        due("2", deskOf("1,2/3,4").determinant(), -2);
        due("3", deskOf("2,0,1/1,3,2/1,1,4").determinant(), 2 * 10 + 1 * (1 - 3));
        due("like rows", deskOfAll(7, 20).determinant(), 0);
        due("cycle of 3", deskOf("0,1,0/0,0,1/1,0,0").determinant(), 1);
        due("cycle of 4", deskOf("0,1,0,0/0,0,1,0/0,0,0,1/1,0,0,0").determinant(), -1);
        due("turned round", deskOf("0,0,0,1/0,0,1,0/0,1,0,0/1,0,0,0").determinant(), 1);
        PermanentDesk seven = new PermanentDesk();
        seven.clear(7);
        for (int r = 0; r < 7; r++) {
            seven.set(r, 6 - r, 20);
        }
        due("7 rows", seven.determinant(), -1280000000L);
    }

    private static void promise20Minor() {
        PermanentDesk desk = deskOf("1,2,3/4,5,6/7,8,9");
        due("minor(0, 0)", desk.minor(0, 0), 5 * 9 + 6 * 8);
        due("minor(0, 2)", desk.minor(0, 2), 4 * 8 + 5 * 7);
        due("minor(2, 1)", desk.minor(2, 1), 1 * 6 + 3 * 4);
        due("one row", deskOf("0").minor(0, 0), 1);
        due("two rows", deskOf("1,-2/3,4").minor(1, 0), -2);
        for (int line : NO_LINES) {
            due("minor(" + line + ", 0)", desk.minor(line, 0), LONG_UNKNOWN);
            due("minor(0, " + line + ")", desk.minor(0, line), LONG_UNKNOWN);
        }
        due("7 rows", deskOfAll(7, 20).minor(3, 6), 720L * 64000000L);
    }

    private static void promise21PermanentOf() {
        PermanentDesk desk = deskOf("1,2,3/4,5,6/7,8,9");
        due("permanentOf(0, 0)", desk.permanentOf(0, 0), 1);
        due("permanentOf(1, 4)", desk.permanentOf(1, 4), 3);
        due("permanentOf(4, 1)", desk.permanentOf(4, 1), 7);
        due("permanentOf(3, 6)", desk.permanentOf(3, 6), 2 * 6 + 3 * 5);
        due("permanentOf(5, 3)", desk.permanentOf(5, 3), 1 * 8 + 2 * 7);
        due("permanentOf(7, 7)", desk.permanentOf(7, 7), 450);
        due("permanentOf(1, 3)", desk.permanentOf(1, 3), LONG_NOT_POSSIBLE);
        due("permanentOf(0, 7)", desk.permanentOf(0, 7), LONG_NOT_POSSIBLE);
        for (int set : new int[] {8, 9, 64, 128, 1 << 30, Integer.MIN_VALUE, -1, Integer.MAX_VALUE}) {
            due("permanentOf(" + set + ", 1)", desk.permanentOf(set, 1), LONG_UNKNOWN);
            due("permanentOf(1, " + set + ")", desk.permanentOf(1, set), LONG_UNKNOWN);
            due("permanentOf(" + set + ", 0)", desk.permanentOf(set, 0), LONG_UNKNOWN);
        }
    }

    private static void promise22SumOf() {
        PermanentDesk desk = deskOf("1,2,3/4,5,6/7,8,9");
        due("sumOf(0)", desk.sumOf(0), 1);
        due("sumOf(1)", desk.sumOf(1), 45);
        due("sumOf(2)", desk.sumOf(2), sumOfMinors(desk));
        due("two rows: sumOf(1)", deskOf("1,-2/3,4").sumOf(1), 6);
        due("two rows: sumOf(2)", deskOf("1,-2/3,4").sumOf(2), -2);
        due("sumOf(3)", desk.sumOf(3), 450);
        due("sumOf(4)", desk.sumOf(4), LONG_OUT_OF_RANGE);
        due("sumOf(-1)", desk.sumOf(-1), LONG_OUT_OF_RANGE);
        due("sumOf(MIN)", desk.sumOf(Integer.MIN_VALUE), LONG_OUT_OF_RANGE);
        due("sumOf(MAX)", desk.sumOf(Integer.MAX_VALUE), LONG_OUT_OF_RANGE);
        long[] sevens = {1, 49, 441 * 2, 1225 * 6, 1225 * 24, 441 * 120, 49 * 720, 5040};
        PermanentDesk seven = deskOfAll(7, 1);
        PermanentDesk negative = deskOfAll(7, -20);
        long power = 1;
        for (int k = 0; k <= 7; k++) {
            due("7 rows of 1: sumOf(" + k + ")", seven.sumOf(k), sevens[k]);
            due("7 rows of -20: sumOf(" + k + ")", negative.sumOf(k), sevens[k] * power);
            power *= -20;
        }
    }

    private static long sumOfMinors(PermanentDesk desk) {
        long sum = 0;
        for (int cell = 0; cell < 9; cell++) {
            sum += desk.minor(cell / 3, cell % 3);
        }
        return sum;
    }

    private static void promise23WholeDiagonals() {
        due("zeros", new PermanentDesk().wholeDiagonals(), 0);
        due("one", deskOf("-1").wholeDiagonals(), 1);
        due("signs do not count", deskOf("1,1/1,-1").wholeDiagonals(), 2);
        due("7 rows", deskOfAll(7, -1).wholeDiagonals(), 5040);
        due("without the middle", deskOf("0,1,1/1,0,1/1,1,0").wholeDiagonals(), 2);
        due("triangle", deskOf("1,0,0/1,1,0/1,1,1").wholeDiagonals(), 1);
    }

    private static void promise24WholeDiagonal() {
        PermanentDesk all = deskOf("1,2,3/4,5,6/7,8,9");
        int[] ordered = {12, 21, 102, 120, 201, 210};
        for (int rank = 0; rank < 6; rank++) {
            due("wholeDiagonal(" + rank + ")", all.wholeDiagonal(rank), ordered[rank]);
        }
        due("wholeDiagonal(6)", all.wholeDiagonal(6), NONE);
        due("wholeDiagonal(MAX)", all.wholeDiagonal(Integer.MAX_VALUE), NONE);
        due("wholeDiagonal(-1)", all.wholeDiagonal(-1), OUT_OF_RANGE);
        due("wholeDiagonal(MIN)", all.wholeDiagonal(Integer.MIN_VALUE), OUT_OF_RANGE);
        due("zeros: wholeDiagonal(0)", new PermanentDesk().wholeDiagonal(0), NONE);
        due("zeros: wholeDiagonal(-1)", new PermanentDesk().wholeDiagonal(-1), OUT_OF_RANGE);
        PermanentDesk some = deskOf("0,1,-1/1,0,1/1,1,0");
        due("some: wholeDiagonal(0)", some.wholeDiagonal(0), 120);
        due("some: wholeDiagonal(1)", some.wholeDiagonal(1), 201);
        due("some: wholeDiagonal(2)", some.wholeDiagonal(2), NONE);
        PermanentDesk seven = deskOfAll(7, 1);
        due("7 rows: wholeDiagonal(0)", seven.wholeDiagonal(0), 123456);
        due("7 rows: wholeDiagonal(720)", seven.wholeDiagonal(720), 1023456);
        due("7 rows: wholeDiagonal(5039)", seven.wholeDiagonal(5039), 6543210);
        due("7 rows: wholeDiagonal(5040)", seven.wholeDiagonal(5040), NONE);
        due("one row", deskOf("3").wholeDiagonal(0), 0);
    }

    private static void promise25DiagonalsThrough() {
        PermanentDesk desk = deskOf("1,-1,0/1,1,1/0,1,1");
        int[][] want = {{2, 1, 0}, {1, 1, 1}, {0, 1, 2}};
        for (int r = 0; r < 3; r++) {
            for (int c = 0; c < 3; c++) {
                due("diagonalsThrough(" + r + ", " + c + ")", desk.diagonalsThrough(r, c), want[r][c]);
            }
        }
        for (int line : NO_LINES) {
            due("diagonalsThrough(" + line + ", 0)", desk.diagonalsThrough(line, 0), UNKNOWN);
            due("diagonalsThrough(0, " + line + ")", desk.diagonalsThrough(0, line), UNKNOWN);
        }
        due("an entry that is on none", deskOf("1,1/0,1").diagonalsThrough(0, 1), 0);
        due("a zero", deskOf("0,1/1,1").diagonalsThrough(0, 0), 0);
        due("one row", deskOf("5").diagonalsThrough(0, 0), 1);
        due("one zero", deskOf("0").diagonalsThrough(0, 0), 0);
        due("signs do not count", deskOf("1,1,1/1,1,-1/1,1,1").diagonalsThrough(0, 0), 2);
        due("7 rows", deskOfAll(7, 9).diagonalsThrough(6, 0), 720);
    }

    private static void promise26Rooks() {
        PermanentDesk desk = deskOf("5,-3,0/0,2,2/0,0,0");
        due("rooks(0)", desk.rooks(0), 1);
        due("rooks(1)", desk.rooks(1), 4);
        due("rooks(2)", desk.rooks(2), 3);
        due("rooks(3)", desk.rooks(3), 0);
        due("rooks(4)", desk.rooks(4), OUT_OF_RANGE);
        due("rooks(-1)", desk.rooks(-1), OUT_OF_RANGE);
        due("rooks(MIN)", desk.rooks(Integer.MIN_VALUE), OUT_OF_RANGE);
        due("rooks(MAX)", desk.rooks(Integer.MAX_VALUE), OUT_OF_RANGE);
        int[] sevens = {1, 49, 882, 7350, 29400, 52920, 35280, 5040};
        PermanentDesk seven = deskOfAll(7, -20);
        for (int k = 0; k <= 7; k++) {
            due("7 rows: rooks(" + k + ")", seven.rooks(k), sevens[k]);
        }
    }

    private static void promise27TooFew() {
        due("zeros", new PermanentDesk().tooFew(), 1);
        due("a whole matrix", deskOf("1,1/1,1").tooFew(), NONE);
        due("a row of zeros", deskOf("1,1,1/1,1,1/0,0,0").tooFew(), 4);
        due("the first of two rows of zeros", deskOf("1,1,1/0,0,0/0,0,0").tooFew(), 2);
        due("two rows in one column", deskOf("1,0,0/1,1,1/-1,0,0").tooFew(), 5);
        due("of two pairs the lesser", deskOf("0,0,0,1/1,0,0,0/1,0,0,0/0,0,0,1").tooFew(), 6);
        due("a smaller set ahead of a lesser number", deskOf("1,1,0,0/1,1,0,0/-1,1,0,0/0,0,0,0").tooFew(), 8);
        due("three rows in two columns", deskOf("1,1,0/1,1,0/1,1,0").tooFew(), 7);
        due("one row", deskOf("0").tooFew(), 1);
        due("one row", deskOf("-1").tooFew(), NONE);
        PermanentDesk seven = new PermanentDesk();
        seven.clear(7);
        for (int cell = 0; cell < 42; cell++) {
            seven.set(cell / 6, cell % 6, 1);
        }
        due("seven rows in six columns", seven.tooFew(), 127);
    }

    private static void dueBest(String text, int sum, int diagonal) {
        PermanentDesk desk = deskOf(text);
        due("best(true) of " + text, desk.best(true), sum);
        due("best(false) of " + text, desk.best(false), diagonal);
    }

    private static void promise28Best() {
        dueBest("0,0,0/0,0,0/0,0,0", 0, 12);
        dueBest("-7", -7, 0);
        PermanentDesk counted = deskOf("1,2/3,4");
        due("wholeDiagonals()", counted.wholeDiagonals(), 2);
        due("best(true) behind wholeDiagonals()", counted.best(true), 5);
        dueBest("1,2/3,4", 5, 1);
        dueBest("1,5/5,4", 10, 10);
        dueBest("-20,-20/-20,-20", -40, 1);
        dueBest("0,0,1/0,0,0/0,0,0", 1, 201);
        dueBest("-1,-1,5/0,0,5/4,4,20", 19, 12);
        due("7 rows: best(true)", deskOfAll(7, -20).best(true), -140);
        due("7 rows: best(false)", deskOfAll(7, -20).best(false), 123456);
        due("7 rows: best(true)", deskOfAll(7, 20).best(true), 140);
    }

    private static void dueNodes(String text, int plain, int withMemory) {
        PermanentDesk desk = deskOf(text);
        due("nodes(false) of " + text, desk.nodes(false), plain);
        due("nodes(true) of " + text, desk.nodes(true), withMemory);
    }

    private static void promise29Nodes() {
        dueNodes("0,0/1,1", 1, 1);
        dueNodes("5", 2, 2);
        dueNodes("1,-1/0,0", 3, 3);
        dueNodes("1,1/1,1", 5, 4);
        dueNodes("1,1,-1/1,1,1/1,1,1", 16, 8);
        dueNodes("1,1,0/1,1,0/0,0,0", 5, 4);
        dueNodes("1,0,0/0,1,0/0,0,1", 4, 4);
        due("7 rows: nodes(false)", deskOfAll(7, 3).nodes(false), 13700);
        due("7 rows: nodes(true)", deskOfAll(7, 3).nodes(true), 128);
    }

    private static void dueScalingErrors(PermanentDesk desk, long state) {
        for (int line : NO_LINES) {
            due("scaledBits(" + line + ", 0, 51)", desk.scaledBits(line, 0, 51), LONG_UNKNOWN);
            due("scaledBits(0, " + line + ", 0)", desk.scaledBits(0, line, 0), LONG_UNKNOWN);
        }
        for (int sweeps : new int[] {-1, 51, Integer.MIN_VALUE, Integer.MAX_VALUE}) {
            due("scaledBits(0, 0, " + sweeps + ")", desk.scaledBits(0, 0, sweeps), LONG_OUT_OF_RANGE);
            due("gapBits(" + sweeps + ")", desk.gapBits(sweeps), LONG_OUT_OF_RANGE);
            due("boundBits(" + sweeps + ")", desk.boundBits(sweeps), LONG_OUT_OF_RANGE);
        }
        if (state != 0) {
            for (int sweeps = 0; sweeps <= 50; sweeps += 25) {
                due("scaledBits(0, 0, " + sweeps + ")", desk.scaledBits(0, 0, sweeps), state);
                due("gapBits(" + sweeps + ")", desk.gapBits(sweeps), state);
                due("boundBits(" + sweeps + ")", desk.boundBits(sweeps), state);
            }
        }
    }

    private static void promises30To32Errors() {
        dueScalingErrors(deskOf("1,1,1/1,1,1/1,1,1"), 0);
        dueScalingErrors(new PermanentDesk(), LONG_NOT_POSSIBLE);
        dueScalingErrors(deskOf("1,1,1/1,1,1/1,1,-1"), LONG_NOT_POSSIBLE);
        dueScalingErrors(deskOf("1,1,1/1,1,1/0,0,0"), LONG_NOT_POSSIBLE);
        dueScalingErrors(deskOf("1,1,0/1,1,0/1,1,0"), LONG_NOT_POSSIBLE);
        dueScalingErrors(deskOf("0,0,0/1,1,1/1,1,1"), LONG_NOT_POSSIBLE);
        dueScalingErrors(deskOf("0,1,1/0,1,1/0,1,1"), LONG_NOT_POSSIBLE);
        dueScalingErrors(deskOf("2,1,1/1,-1,1/1,1,1"), LONG_NOT_POSSIBLE);
    }

    private static void promise30ScaledBits() {
        PermanentDesk desk = deskOf("1,2/3,4");
        for (int cell = 0; cell < 4; cell++) {
            CHECKS.dueBits("no sweep", desk.scaledBits(cell / 2, cell % 2, 0), cell + 1.0);
        }
        double a = 1.0 / 3.0, b = 2.0 / 3.0, c = 3.0 / 7.0, d = 4.0 / 7.0;
        CHECKS.dueBits("one sweep (0, 0)", desk.scaledBits(0, 0, 1), a / (a + c));
        CHECKS.dueBits("one sweep (0, 1)", desk.scaledBits(0, 1, 1), b / (b + d));
        CHECKS.dueBits("one sweep (1, 0)", desk.scaledBits(1, 0, 1), c / (a + c));
        CHECKS.dueBits("one sweep (1, 1)", desk.scaledBits(1, 1, 1), d / (b + d));
        CHECKS.dueBits("a zero stays", deskOf("1,0/1,1").scaledBits(0, 1, 50), 0.0);
        CHECKS.dueBits("one row", deskOf("20").scaledBits(0, 0, 1), 1.0);
        CHECKS.dueBits("one row", deskOf("20").scaledBits(0, 0, 0), 20.0);
        // Without a whole diagonal an entry goes towards 0 fast.
        PermanentDesk cross = crossOf(7);
        double tiny = Double.longBitsToDouble(cross.scaledBits(0, 0, 50));
        CHECKS.holds("a tiny entry", tiny > 0.0 && tiny < 1e-70);
        due("the matrix stays", desk.entry(1, 1), 4);
        due("nothing is recorded", desk.total(7), 1);
        for (String text : SCALED) {
            dueScaledAsSlow(text);
        }
    }

    /** Sums that are small, great, far from each other, and entries that are. */
    private static final String[] SCALED = {"1,20,20/0,20,20/0,20,20", "1,1,1/1,1,0/1,0,1", "20,0,0/20,20,0/1,20,20",
        "1,1/0,1", "3,1,4,1/5,9,2,6/5,3,5,8/9,7,9,3", "20,20,20,20,20/1,0,0,0,0/1,0,0,0,0/1,0,0,0,0/20,0,0,0,0"};

    private static void dueScaledAsSlow(String text) {
        PermanentDesk desk = deskOf(text);
        SlowDesk slow = slowDeskOf(text);
        for (int sweeps : new int[] {0, 1, 2, 7, 49, 50}) {
            for (int cell = 0; cell < 9; cell++) {
                due("scaledBits of " + text, desk.scaledBits(cell / 3, cell % 3, sweeps),
                    slow.scaledBits(cell / 3, cell % 3, sweeps));
            }
            due("gapBits of " + text, desk.gapBits(sweeps), slow.gapBits(sweeps));
            due("boundBits of " + text, desk.boundBits(sweeps), slow.boundBits(sweeps));
        }
    }

    /** Ones in the first row and the first column alone. */
    private static PermanentDesk crossOf(int rows) {
        PermanentDesk desk = new PermanentDesk();
        desk.clear(rows);
        for (int i = 0; i < rows; i++) {
            desk.set(0, i, 1);
            desk.set(i, 0, 1);
        }
        return desk;
    }

    private static void promise31GapBits() {
        PermanentDesk desk = deskOf("1,2/3,4");
        CHECKS.dueBits("no sweep", desk.gapBits(0), 6.0);
        double a = 1.0 / 3.0, b = 2.0 / 3.0, c = 3.0 / 7.0, d = 4.0 / 7.0;
        double first = Math.abs(a / (a + c) + b / (b + d) - 1.0), second = Math.abs(c / (a + c) + d / (b + d) - 1.0);
        CHECKS.dueBits("one sweep", desk.gapBits(1), Math.max(first, second));
        CHECKS.dueBits("no gap", deskOf("0,1/1,0").gapBits(0), 0.0);
        CHECKS.dueBits("a first row that is far off", deskOf("9,0/0,1").gapBits(0), 8.0);
        double third = 1.0 / 3.0, half = 1.0 / 2.0;
        CHECKS.dueBits("a greatest gap above 1", deskOf("1,1,1/1,1,0/1,0,1").gapBits(1),
            third / (third + half + half) + third / (third + half) + third / (third + half) - 1.0);
        CHECKS.dueBits("a row below 1", deskOf("1,1,1/1,0,0/1,0,0").gapBits(1),
            Math.abs(1.0 / 3.0 / (1.0 / 3.0 + 1.0 + 1.0) + 1.0 + 1.0 - 1.0));
    }

    private static void promise32BoundBits() {
        double[] plain = new double[8];
        for (int n = 1; n <= 7; n++) {
            plain[n] = 1.0;
            for (int k = 1; k <= n; k++) {
                plain[n] = plain[n] * k / n;
            }
            CHECKS.dueBits("no sweep, " + n, deskOfAll(n, 2).boundBits(0), plain[n]);
        }
        double columns = 1.0 / 3.0 + 3.0 / 7.0, others = 2.0 / 3.0 + 4.0 / 7.0;
        CHECKS.dueBits("one sweep", deskOf("1,2/3,4").boundBits(1), plain[2] * 3.0 * 7.0 * columns * others);
        CHECKS.dueBits("one row", deskOf("20").boundBits(1), 20.0);
        CHECKS.dueBits("one row", deskOf("20").boundBits(50), 20.0);
        smallBounds();
        PermanentDesk great = deskOfAll(7, 20);
        SlowDesk slow = new SlowDesk();
        slow.clear(7);
        for (int cell = 0; cell < 49; cell++) {
            slow.set(cell / 7, cell % 7, 20);
        }
        for (int sweeps = 0; sweeps <= 50; sweeps += 10) {
            due("a great bound", great.boundBits(sweeps), slow.boundBits(sweeps));
        }
        double bound = Double.longBitsToDouble(great.boundBits(1));
        CHECKS.holds("a great bound is near the permanent", bound > 6.45e12 && bound < 6.46e12);
    }

    /** The bound of a cross goes by the normal doubles, the ones below them, and 0. */
    private static void smallBounds() {
        PermanentDesk cross = crossOf(7);
        SlowDesk slow = new SlowDesk();
        slow.clear(7);
        for (int i = 0; i < 7; i++) {
            slow.set(0, i, 1);
            slow.set(i, 0, 1);
        }
        boolean isBelowNormal = false;
        boolean isZero = false;
        for (int sweeps = 0; sweeps <= 50; sweeps++) {
            long bits = cross.boundBits(sweeps);
            due("cross: boundBits(" + sweeps + ")", bits, slow.boundBits(sweeps));
            isBelowNormal |= bits > 0 && bits < 1L << 52;
            isZero |= bits == 0;
        }
        CHECKS.holds("a bound below the normal doubles has been seen", isBelowNormal);
        CHECKS.holds("a bound of 0 has been seen", isZero);
    }

    private static void dueParts(String text, int... diagonalsAndWeights) {
        PermanentDesk desk = deskOf(text);
        int count = diagonalsAndWeights.length / 2;
        due("parts() of " + text, desk.parts(), count);
        for (int i = 0; i < count; i++) {
            due("part(" + i + ", false) of " + text, desk.part(i, false), diagonalsAndWeights[2 * i]);
            due("part(" + i + ", true) of " + text, desk.part(i, true), diagonalsAndWeights[2 * i + 1]);
        }
        for (int i : new int[] {-1, count, 49, 50, Integer.MIN_VALUE, Integer.MAX_VALUE}) {
            due("part(" + i + ", true) of " + text, desk.part(i, true), UNKNOWN);
            due("part(" + i + ", false) of " + text, desk.part(i, false), UNKNOWN);
        }
        due("parts() of " + text, desk.parts(), count);
        dueMatrix("it stays whole", desk, text);
        due("nothing is recorded", desk.total(7), 1);
    }

    private static void promises33And34Parts() {
        dueParts("7", 0, 7);
        dueParts("1", 0, 1);
        dueParts("0,1/1,0", 10, 1);
        dueParts("1,2/2,1", 1, 1, 10, 2);
        dueParts("0,3/3,0", 10, 3);
        dueParts("3,0,2/2,3,0/0,2,3", 12, 3, 201, 2);
        dueParts("1,1,1/1,1,1/1,1,1", 12, 1, 120, 1, 201, 1);
        dueParts("2,1,1/1,1,2/1,2,1", 12, 1, 21, 1, 120, 1, 201, 1);
        String[] whole = {"0,0/0,0", "1,2/3,4", "1,1/2,2", "1,2/1,2", "-1,2/2,-1", "2,-1/-1,2", "-1,0/0,-1",
            "-1,1/1,-1", "0", "-5", "1,0/0,2"};
        for (String text : whole) {
            PermanentDesk desk = deskOf(text);
            due("parts() of " + text, desk.parts(), NOT_POSSIBLE);
            due("part(0, true) of " + text, desk.part(0, true), NOT_POSSIBLE);
            due("part(-1, false) of " + text, desk.part(-1, false), NOT_POSSIBLE);
        }
        PermanentDesk fresh = deskOf("0,3/3,0");
        due("a part ahead of all else", fresh.part(0, true), 3);
        fresh.swapRows(0, 1);
        due("a part behind a change", fresh.part(0, false), 1);
        fresh.add(10);
        due("parts() behind a change", fresh.parts(), 2);
        PermanentDesk seven = deskOfAll(7, 20);
        due("7 rows: parts()", seven.parts(), 7);
        for (int i = 0; i < 7; i++) {
            due("7 rows: weight", seven.part(i, true), 20);
        }
    }

    private static void constants() {
        due("UNKNOWN", PermanentDesk.UNKNOWN, UNKNOWN);
        due("OUT_OF_RANGE", PermanentDesk.OUT_OF_RANGE, OUT_OF_RANGE);
        due("FULL", PermanentDesk.FULL, FULL);
        due("NOT_POSSIBLE", PermanentDesk.NOT_POSSIBLE, NOT_POSSIBLE);
        due("NONE", PermanentDesk.NONE, NONE);
        due("LONG_UNKNOWN", PermanentDesk.LONG_UNKNOWN, LONG_UNKNOWN);
        due("LONG_OUT_OF_RANGE", PermanentDesk.LONG_OUT_OF_RANGE, LONG_OUT_OF_RANGE);
        due("LONG_NOT_POSSIBLE", PermanentDesk.LONG_NOT_POSSIBLE, LONG_NOT_POSSIBLE);
    }

    public static void main(String[] arguments) {
        constants();
        promise1NewObject();
        promise2Clear();
        promise3Set();
        promise4SwapRows();
        promise5SwapColumns();
        promise6Transpose();
        promise7Multiply();
        promise8Add();
        promise9Type();
        promise10ClearText();
        promise11Read();
        promise12Undo();
        promise13Keep();
        promise14Restore();
        promise15Entry();
        promise16Total();
        promise17LineSum();
        promise18Permanent();
        promise19Determinant();
        promise20Minor();
        promise21PermanentOf();
        promise22SumOf();
        promise23WholeDiagonals();
        promise24WholeDiagonal();
        promise25DiagonalsThrough();
        promise26Rooks();
        promise27TooFew();
        promise28Best();
        promise29Nodes();
        promises30To32Errors();
        promise30ScaledBits();
        promise31GapBits();
        promise32BoundBits();
        promises33And34Parts();
        CHECKS.end("PromiseTests");
    }
}
