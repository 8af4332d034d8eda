import java.util.Arrays;

/** The sentences of MATRICES and of EXPANSIONS, and the one about the calls of an object. */
final class MatrixTerms extends SentenceGroup {
    MatrixTerms(Checks checks) {
        super(checks);
    }

    @Says(at = "What it is", words = "An object is used for at most 512 calls after it has been made")
    void all512CallsAreAnswered() {
        PermanentDesk changed = new PermanentDesk();
        for (int call = 1; call <= 508; call++) {
            due("call " + call, changed.set(2, 2, call % 2 + 1), call == 1 ? 0 : (call - 1) % 2 + 1);
        }
        for (int call = 509; call <= 512; call++) {
            due("call " + call + ": undo()", changed.undo(), 512 - call);
        }
        PermanentDesk typed = new PermanentDesk();
        for (int call = 1; call <= 512; call++) {
            due("call " + call + ": type('1')", typed.type('1'), call <= 100 ? call : FULL);
        }
        PermanentDesk asked = new PermanentDesk();
        for (int call = 1; call <= 512; call++) {
            due("call " + call + ": tooFew()", asked.tooFew(), 1);
        }
    }

    @Says(at = "MATRICES", words = "The matrix has n rows and n columns (n from 1 to 7; 3 at first)")
    void thereAre1To7RowsAndAsManyColumns() {
        due("rows of a new object", new PermanentDesk().total(0), 3);
        for (int rows = 1; rows <= 7; rows++) {
            PermanentDesk desk = new PermanentDesk();
            desk.clear(rows);
            due("rows", desk.total(0), rows);
            due("set the last entry of " + rows, desk.set(rows - 1, rows - 1, 9), 0);
            due("the last entry of " + rows, desk.entry(rows - 1, rows - 1), 9);
            due("one row too many", desk.entry(rows, 0), UNKNOWN);
            due("one column too many", desk.entry(0, rows), UNKNOWN);
        }
        dueRefused("clear(0)", "7", desk -> desk.clear(0), OUT_OF_RANGE);
        dueRefused("clear(8)", ONE_TO_NINE, desk -> desk.clear(8), OUT_OF_RANGE);
        dueRead("1", 1);
        dueRead(Desks.textOfAll(7, 1), 7);
        dueLastIsFault(Desks.rowOf(7, 1) + ",");
    }

    @Says(at = "MATRICES", words = ", numbered from 0,")
    void linesAreNumberedFrom0() {
        PermanentDesk desk = Desks.of(ONE_TO_NINE);
        due("entry(0, 0)", desk.entry(0, 0), 1);
        due("entry(2, 2)", desk.entry(2, 2), 9);
        due("entry(-1, 0)", desk.entry(-1, 0), UNKNOWN);
        due("entry(3, 3)", desk.entry(3, 3), UNKNOWN);
        due("lineSum(0, true)", desk.lineSum(0, true), 12);
        due("lineSum(2, false)", desk.lineSum(2, false), 24);
        due("minor(0, 0)", desk.minor(0, 0), 5 * 9 + 6 * 8);
    }

    @Says(at = "MATRICES", words = "with whole numbers from -20 to 20 as entries (0 at first).")
    void entriesAreFromMinus20To20() {
        dueMatrix("a new object", new PermanentDesk(), ZEROS);
        for (int entry = -22; entry <= 22; entry++) {
            boolean isEntry = entry >= -20 && entry <= 20;
            PermanentDesk desk = Desks.of("0,0/0,0");
            due("set to " + entry, desk.set(1, 1, entry), isEntry ? (entry == 0 ? NONE : 0) : OUT_OF_RANGE);
            due("entry behind set to " + entry, desk.entry(1, 1), isEntry ? entry : 0);
        }
        dueChange("multiply to 20", "10,-10/0,0", desk -> desk.multiply(0, 2), "20,-20/0,0");
        dueRefused("multiply to 21", "7,0/0,0", desk -> desk.multiply(0, 3), NOT_POSSIBLE);
        dueRefused("multiply to -21", "7,0/0,0", desk -> desk.multiply(0, -3), NOT_POSSIBLE);
        dueChange("add to 20", "19", desk -> desk.add(0), "20");
        dueRefused("add to 21", "20", desk -> desk.add(0), NOT_POSSIBLE);
        dueChange("add from -20", "-20", desk -> desk.add(0), "-19");
        dueRead("20,-20/-20,20", 2);
        dueLastIsFault("21");
        dueLastIsFault("-21");
    }

    @Says(at = "MATRICES",
        words = "A diagonal is a way to choose one entry of each row so that no two are in the same column.")
    void noTwoEntriesOfADiagonalAreInOneColumn() {
        dueDiagonals(1, 200);
        dueDiagonals(2, 400);
        dueDiagonals(3, 3000);
        dueDiagonals(4, 14000);
        for (int number : new int[] {0, 6543211, 6543200, 123455, 1023455, 1111111, 6666666, 1123456}) {
            dueRefused("add(" + number + ")", Desks.textOfAll(7, 1), desk -> desk.add(number), UNKNOWN);
        }
    }

    /** Numbers of this many rows that are diagonals, among all from -12 on. */
    private void dueDiagonals(int rows, int below) {
        for (int number = -12; number < below; number++) {
            PermanentDesk desk = new PermanentDesk();
            desk.clear(rows);
            int want = isDiagonal(number, rows) ? rows : UNKNOWN;
            due("add(" + number + ") with " + rows + " rows", desk.add(number), want);
        }
    }

    private static boolean isDiagonal(int number, int rows) {
        String digits = "0".repeat(Math.max(0, rows - Integer.toString(number).length())) + number;
        char[] sorted = digits.toCharArray();
        Arrays.sort(sorted);
        return new String(sorted).equals("0123456".substring(0, rows));
    }

    @Says(at = "MATRICES",
        words = "It is told by its columns, row by row, as a number with n digits (as many as there are rows;"
            + " zeros ahead belong to it): the column of the row 0 is the first digit.")
    void aDiagonalIsToldByTheColumnsOfItsRows() {
        dueMatrix("add(120)", Desks.ofDiagonal(3, 120), "0,1,0/0,0,1/1,0,0");
        dueMatrix("add(12)", Desks.ofDiagonal(3, 12), "1,0,0/0,1,0/0,0,1");
        dueMatrix("add(1)", Desks.ofDiagonal(2, 1), "1,0/0,1");
        dueMatrix("add(0)", Desks.ofDiagonal(1, 0), "1");
        dueMatrix("add(312)", Desks.ofDiagonal(4, 312), "1,0,0,0/0,0,0,1/0,1,0,0/0,0,1,0");
        due("wholeDiagonal(0) of 120", Desks.ofDiagonal(3, 120).wholeDiagonal(0), 120);
        due("wholeDiagonal(0) of 7 rows", Desks.ofDiagonal(7, 123456).wholeDiagonal(0), 123456);
        due("best(false) of 7 rows", Desks.ofDiagonal(7, 6123450).best(false), 6123450);
        due("part(0, false) of 7 rows", Desks.ofDiagonal(7, 3456012).part(0, false), 3456012);
        for (int number : new int[] {1, 10, 1023, 1012, 10012, 123, 2100, 12000, 1000012, -12}) {
            dueRefused("add(" + number + ")", ONE_TO_NINE, desk -> desk.add(number), UNKNOWN);
        }
        for (int number : new int[] {12345, 12346, 123450, 123457, 1234567, 7123456, 10123456, 1000000, MIN, MAX}) {
            dueRefused("add(" + number + ")", Desks.textOfAll(7, 1), desk -> desk.add(number), UNKNOWN);
        }
    }

    @Says(at = "MATRICES", words = "Diagonals are ordered by these numbers.")
    void diagonalsAreOrderedByTheirNumbers() {
        int before = -1;
        PermanentDesk four = Desks.of(Desks.textOfAll(4, -1));
        for (int rank = 0; rank < 24; rank++) {
            int diagonal = four.wholeDiagonal(rank);
            holds("the diagonal of rank " + rank + " is greater than the one before it", diagonal > before);
            before = diagonal;
        }
        PermanentDesk seven = Desks.of(Desks.textOfAll(7, 1));
        int[] ranks = {0, 1, 719, 720, 2519, 2520, 5038, 5039};
        int[] diagonals = {123456, 123465, 654321, 1023456, 3265410, 3401256, 6543201, 6543210};
        for (int i = 0; i < ranks.length; i++) {
            due("wholeDiagonal(" + ranks[i] + ")", seven.wholeDiagonal(ranks[i]), diagonals[i]);
        }
        due("the least of the best", seven.best(false), 123456);
        due("the first part", seven.part(0, false), 123456);
    }

    @Says(at = "MATRICES", words = "A diagonal is whole if none of its entries is 0.")
    void aZeroAnywhereMakesADiagonalNotWhole() {
        due("entries below 0 are none that are 0", Desks.of(Desks.textOfAll(3, -20)).wholeDiagonals(), 6);
        for (int rows = 1, diagonals = 1; rows <= 7; rows++, diagonals *= rows) {
            for (int cell = 0; cell < rows * rows; cell++) {
                PermanentDesk desk = Desks.of(Desks.textOfAll(rows, 1));
                desk.set(cell / rows, cell % rows, 0);
                due("a zero at " + cell + " of " + rows + " rows", desk.wholeDiagonals(), diagonals - diagonals / rows);
            }
        }
        for (int row = 0; row < 7; row++) {
            PermanentDesk desk = Desks.ofDiagonal(7, 6543210);
            due("a whole diagonal", desk.wholeDiagonals(), 1);
            desk.set(row, 6 - row, 0);
            due("a zero in the row " + row, desk.wholeDiagonals(), 0);
            due("there is none then", desk.wholeDiagonal(0), NONE);
        }
    }

    @Says(at = "MATRICES",
        words = "The permanent is the sum, over all diagonals, of the products of their entries.")
    void thePermanentIsTheSumOfTheProducts() {
        due("one row", Desks.of("-20").permanent(), -20);
        due("one zero", Desks.of("0").permanent(), 0);
        due("two rows", Desks.of("1,2/3,4").permanent(), 10);
        due("three rows", Desks.of(ONE_TO_NINE).permanent(), 45 + 48 + 72 + 84 + 96 + 105);
        due("products that cancel", Desks.of("1,1/1,-1").permanent(), 0);
        for (int diagonal : new int[] {12, 21, 102, 120, 201, 210}) {
            due("one diagonal alone: " + diagonal, Desks.ofDiagonal(3, diagonal).permanent(), 1);
        }
        due("the greatest", Desks.ofAll(7, 20).permanent(), 5040L * 1280000000L);
        due("the least", Desks.ofAll(7, -20).permanent(), -5040L * 1280000000L);
    }

    @Says(at = "MATRICES",
        words = "The determinant is the same sum with the sign of each product changed if the diagonal has an odd"
            + " number of pairs of rows of which the upper one has the greater column.")
    void theDeterminantHasTheSignsOfTheDiagonals() {
        due("one row", Desks.of("-20").determinant(), -20);
        due("two rows", Desks.of("1,2/3,4").determinant(), -2);
        for (int rows = 1; rows <= 5; rows++) {
            PermanentDesk all = Desks.of(Desks.textOfAll(rows, 1));
            for (int rank = 0; rank < all.wholeDiagonals(); rank++) {
                int diagonal = all.wholeDiagonal(rank);
                boolean isOdd = pairs(diagonal, rows) % 2 != 0;
                due("the sign of " + diagonal, Desks.ofDiagonal(rows, diagonal).determinant(), isOdd ? -1 : 1);
            }
        }
        due("21 pairs", Desks.ofDiagonal(7, 6543210).determinant(), -1);
        due("20 pairs", Desks.ofDiagonal(7, 6543201).determinant(), 1);
        due("15 pairs of 6 rows", Desks.ofDiagonal(6, 543210).determinant(), -1);
        due("no pair", Desks.ofDiagonal(7, 123456).determinant(), 1);
        due("like rows", Desks.ofAll(7, 20).determinant(), 0);
    }

    /** Of rows of which the upper one has the greater column. */
    private static int pairs(int diagonal, int rows) {
        int count = 0;
        for (int right = 0, rest = diagonal; right < rows; right++, rest /= 10) {
            for (int left = right + 1, upper = rest / 10; left < rows; left++, upper /= 10) {
                count += upper % 10 > rest % 10 ? 1 : 0;
            }
        }
        return count;
    }

    @Says(at = "MATRICES",
        words = "Sets of rows and of columns are told as bits: the bit k stands for the row or the column k.")
    void theBitKStandsForTheLineK() {
        for (int row = 0; row < 7; row++) {
            for (int column = 0; column < 7; column++) {
                PermanentDesk desk = new PermanentDesk();
                desk.clear(7);
                desk.set(row, column, -13);
                due("permanentOf the row " + row + " and the column " + column,
                    desk.permanentOf(1 << row, 1 << column), -13);
            }
            PermanentDesk desk = Desks.ofAll(7, 1);
            desk.multiply(row, 0);
            due("tooFew() with zeros in the row " + row, desk.tooFew(), 1 << row);
        }
    }

    @Says(at = "MATRICES",
        words = "The permanent of a set of rows and a set of columns with as many members is that of the matrix"
            + " that consists of their entries; that of two empty sets is 1.")
    void thePermanentOfSetsIsThatOfTheirEntries() {
        PermanentDesk desk = Desks.of(ONE_TO_NINE);
        due("permanentOf(5, 6)", desk.permanentOf(5, 6), 2 * 9 + 3 * 8);
        due("permanentOf(3, 5)", desk.permanentOf(3, 5), 1 * 6 + 3 * 4);
        due("permanentOf(7, 7)", desk.permanentOf(7, 7), 450);
        for (int rows = 1; rows <= 7; rows++) {
            due("empty sets of " + rows + " rows of zeros", Desks.ofAll(rows, 0).permanentOf(0, 0), 1);
            due("sumOf(0) of " + rows + " rows of zeros", Desks.ofAll(rows, 0).sumOf(0), 1);
        }
        due("nothing but empty sets are left of one row", Desks.of("0").minor(0, 0), 1);
    }

    void dueNodes(String matrix, int plain, int withMemory) {
        due("nodes(false) of " + matrix, Desks.of(matrix).nodes(false), plain);
        due("nodes(true) of " + matrix, Desks.of(matrix).nodes(true), withMemory);
    }

    @Says(at = "EXPANSIONS", words = "The plain expansion begins with the row 0 and all columns.")
    void anExpansionBeginsWithTheRow0AndAllColumns() {
        dueNodes("0,0/1,1", 1, 1);
        dueNodes("1,1/0,0", 3, 3);
        dueNodes("0", 1, 1);
        dueNodes(Desks.rowOf(7, 1) + ("/" + Desks.rowOf(7, 0)).repeat(6), 8, 8);
        dueNodes(Desks.rowsOf(6, 7, 0) + "/" + Desks.rowOf(7, 1), 1, 1);
    }

    @Says(at = "EXPANSIONS",
        words = "A node is a row (0 to n) together with the columns that are left; a node of the row n has no"
            + " columns, and is a leaf.")
    void aLeafIsANodeOfTheRowN() {
        dueNodes("5", 2, 2);
        dueNodes("1,0,0/0,1,0/0,0,1", 4, 4);
        dueNodes("1,0,0/0,1,0/0,0,0", 3, 3);
        for (int rows = 1; rows <= 7; rows++) {
            PermanentDesk desk = new PermanentDesk();
            desk.clear(rows);
            for (int line = 0; line < rows; line++) {
                desk.set(line, line, 1);
            }
            due("nodes(false) of " + rows + " rows", desk.nodes(false), rows + 1);
            due("nodes(true) of " + rows + " rows", desk.nodes(true), rows + 1);
        }
    }

    @Says(at = "EXPANSIONS",
        words = "From a node of a row r below n it goes on, for each column that is left and whose entry in the"
            + " row r is not 0, to a node of the row r + 1 without this column.")
    void anExpansionGoesOnByEntriesThatAreNot0() {
        dueNodes("-1,-1/-1,-1", 5, 4);
        dueNodes("1,-1/0,1", 4, 4);
        dueNodes("1,1/1,0", 4, 4);
        dueNodes("1,0,0/1,0,0/1,1,1", 2, 2);
        dueNodes("0,1,0/1,1,0/1,1,1", 4, 4);
        dueNodes("1,1,0/1,1,0/0,0,0", 5, 4);
    }

    @Says(at = "EXPANSIONS",
        words = "In the plain expansion a node counts each time that it is reached (the first one once); with a"
            + " memory it counts once.")
    void aNodeCountsEachTimeButWithAMemoryOnce() {
        dueNodes("1,1/1,1", 1 + 2 + 2, 1 + 2 + 1);
        dueNodes("1,1,-1/1,1,1/1,1,1", 1 + 3 + 6 + 6, 1 + 3 + 3 + 1);
        dueNodes("1,1,0/1,1,0/0,0,1", 1 + 2 + 2 + 2, 1 + 2 + 1 + 1);
        due("7 rows: nodes(false)", Desks.ofAll(7, 3).nodes(false), 1 + 7 + 42 + 210 + 840 + 2520 + 5040 + 5040);
        due("7 rows: nodes(true)", Desks.ofAll(7, 3).nodes(true), 128);
    }
}
