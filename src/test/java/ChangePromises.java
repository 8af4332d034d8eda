/** The sentences of the promises 1 to 8: a new object, and changes. */
final class ChangePromises extends SentenceGroup {
    private static final int[] NO_ENTRIES = {-21, 21, -22, 22, 100, 256, 276, -256, 1 << 16, MIN, MIN + 20, MAX};

    ChangePromises(Checks checks) {
        super(checks);
    }

    // ---- a new object

    @Says(at = "Promise 1", words = "Creates a matrix of 3 rows whose entries are 0.")
    void aNewObjectHasThreeRowsOfZeros() {
        PermanentDesk desk = new PermanentDesk();
        dueMatrix("new", desk, ZEROS);
        due("new: total(7)", desk.total(7), 0);
        due("new: total(8)", desk.total(8), 0);
        due("new: undo()", desk.undo(), NONE);
        due("new: restore()", desk.restore(), NONE);
        due("new: read()", desk.read(), -100);
        desk.clear(7);
        desk.set(0, 0, 5);
        desk.keep();
        desk.type('1');
        PermanentDesk other = new PermanentDesk();
        dueMatrix("new, behind another one's calls", other, ZEROS);
        due("new: total(7)", other.total(7), 0);
        due("new: total(8)", other.total(8), 0);
        due("new: restore()", other.restore(), NONE);
        due("the first one stays", desk.entry(0, 0), 5);
    }

    // ---- clear

    @Says(at = "Promise 2", words = {"Makes a matrix whose entries are 0.", "Returns how many rows there were;"})
    void clearMakesZerosAndTellsHowManyRowsThereWere() {
        for (int before = 1; before <= 7; before++) {
            for (int rows = 1; rows <= 7; rows++) {
                PermanentDesk desk = Desks.ofAll(before, -7);
                due("clear(" + rows + ")", desk.clear(rows), before);
                dueMatrix("clear(" + rows + ")", desk, Desks.textOfAll(rows, 0));
                desk.clear(7);
                dueMatrix("clear(7) behind clear(" + rows + ")", desk, Desks.textOfAll(7, 0));
            }
        }
    }

    @Says(at = "Promise 2", words = "This is a change.")
    void clearIsAChange() {
        dueChange("clear(2)", ONE_TO_NINE, desk -> desk.clear(2), "0,0/0,0");
        dueChange("clear(7)", ONE_TO_NINE, desk -> desk.clear(7), Desks.textOfAll(7, 0));
        dueChange("clear(3)", ONE_TO_NINE, desk -> desk.clear(3), ZEROS);
        dueChange("clear(3) of zeros", ZEROS, desk -> desk.clear(3), ZEROS);
    }

    @Says(at = "Promise 2", words = "`rows`: 1 to 7")
    void clearTakes1To7Rows() {
        for (int rows = -2; rows <= 10; rows++) {
            PermanentDesk desk = Desks.of("1,2/3,4");
            boolean isTaken = rows >= 1 && rows <= 7;
            due("clear(" + rows + ")", desk.clear(rows), isTaken ? 2 : OUT_OF_RANGE);
            due("rows behind clear(" + rows + ")", desk.total(0), isTaken ? rows : 2);
        }
    }

    @Says(at = "Promise 2", words = "OUT_OF_RANGE.")
    void clearIsOutOfRange() {
        for (int rows : new int[] {0, 8, -1, -7, 9, 100, 256 + 3, (1 << 16) + 3, MIN, MIN + 3, MAX}) {
            dueRefused("clear(" + rows + ")", "1,2/3,4", desk -> desk.clear(rows), OUT_OF_RANGE);
        }
    }

    // ---- set

    @Says(at = "Promise 3", words = {"Sets an entry.", "Returns the previous entry;"})
    void setMakesOneEntryAnotherAndTellsThePreviousOne() {
        for (int rows = 1; rows <= 7; rows++) {
            for (int cell = 0; cell < rows * rows; cell++) {
                PermanentDesk desk = Desks.of(Desks.textOfAll(rows, 1));
                due("the previous entry", desk.set(cell / rows, cell % rows, -20), 1);
                due("the previous entry", desk.set(cell / rows, cell % rows, 20), -20);
                due("the previous entry", desk.set(cell / rows, cell % rows, 0), 20);
                due("the previous entry", desk.set(cell / rows, cell % rows, 2), 0);
                due("one entry is 2", desk.entry(cell / rows, cell % rows), 2);
                due("and all others are 1", desk.total(2), rows * rows + 1);
            }
        }
    }

    @Says(at = "Promise 3", words = "This is a change.")
    void setIsAChange() {
        dueChange("set(0, 2, -20)", ONE_TO_NINE, desk -> desk.set(0, 2, -20), "1,2,-20/4,5,6/7,8,9");
        dueChange("set(2, 0, 0)", ONE_TO_NINE, desk -> desk.set(2, 0, 0), "1,2,3/4,5,6/0,8,9");
    }

    @Says(at = "Promise 3", words = {"`row`: a row", "`column`: a column", "UNKNOWN;"})
    void setTakesRowsAndColumnsThatThereAre() {
        dueLines("set, row", (desk, line, other) -> desk.set(line, other, 2), UNKNOWN);
        dueLines("set, column", (desk, line, other) -> desk.set(other, line, 2), UNKNOWN);
        dueRefused("set(2, 0, 7)", "1,2/3,4", desk -> desk.set(2, 0, 7), UNKNOWN);
        dueRefused("set(0, 2, 7)", "1,2/3,4", desk -> desk.set(0, 2, 7), UNKNOWN);
        dueRefused("set(-1, 0, 7)", "1,2/3,4", desk -> desk.set(-1, 0, 7), UNKNOWN);
        dueRefused("set(0, -1, 7)", "1,2/3,4", desk -> desk.set(0, -1, 7), UNKNOWN);
        dueRefused("set(2, 0, 21)", "1,2/3,4", desk -> desk.set(2, 0, 21), UNKNOWN);
    }

    @Says(at = "Promise 3", words = {"`entry`: -20 to 20", "OUT_OF_RANGE;"})
    void setTakesEntriesFromMinus20To20() {
        for (int entry = -20; entry <= 20; entry++) {
            PermanentDesk desk = Desks.of("1,2/3,4");
            due("set(1, 1, " + entry + ")", desk.set(1, 1, entry), entry == 4 ? NONE : 4);
            due("entry(1, 1)", desk.entry(1, 1), entry);
        }
        for (int entry : NO_ENTRIES) {
            dueRefused("set(1, 1, " + entry + ")", "1,2/3,4", desk -> desk.set(1, 1, entry), OUT_OF_RANGE);
        }
    }

    @Says(at = "Promise 3", words = "NONE if it is this already.")
    void setOfTheSameIsNone() {
        for (int entry = -20; entry <= 20; entry++) {
            int same = entry;
            dueRefused("set(0, 1, " + entry + ")", "1," + entry + "/3,4", desk -> desk.set(0, 1, same), NONE);
        }
        PermanentDesk fresh = new PermanentDesk();
        due("set(2, 2, 0) of a new object", fresh.set(2, 2, 0), NONE);
        due("total(7)", fresh.total(7), 0);
    }

    // ---- swapRows and swapColumns

    @Says(at = "Promise 4", words = "Exchanges two rows.")
    void swapRowsExchangesRows() {
        dueChange("swapRows(0, 1)", ONE_TO_NINE, desk -> desk.swapRows(0, 1), "4,5,6/1,2,3/7,8,9");
        dueChange("swapRows(2, 1)", ONE_TO_NINE, desk -> desk.swapRows(2, 1), "1,2,3/7,8,9/4,5,6");
        for (int one = 0; one < 7; one++) {
            for (int other = 0; other < 7; other++) {
                PermanentDesk desk = Desks.ofDiagonal(7, 123456);
                int unlike = desk.swapRows(one, other);
                due("swapRows(" + one + ", " + other + ")", unlike, one == other ? NONE : 4);
                due("the one row", desk.entry(one, other), 1);
                due("the other row", desk.entry(other, one), 1);
            }
        }
    }

    @Says(at = "Promise 4", words = "This is a change.")
    void swapRowsIsAChange() {
        dueChange("swapRows(1, 0)", "1,2/1,3", desk -> desk.swapRows(1, 0), "1,3/1,2");
    }

    @Says(at = "Promise 4", words = {"`one`: a row", "`other`: a row", "UNKNOWN;"})
    void swapRowsTakesRowsThatThereAre() {
        dueLines("swapRows, one", (desk, line, other) -> desk.swapRows(line, other), UNKNOWN);
        dueLines("swapRows, other", (desk, line, other) -> desk.swapRows(other, line), UNKNOWN);
        for (int line : noLines(2)) {
            dueRefused("swapRows of one", "1,2/3,4", desk -> desk.swapRows(line, 0), UNKNOWN);
            dueRefused("swapRows of the other", "1,2/3,4", desk -> desk.swapRows(0, line), UNKNOWN);
            dueRefused("swapRows of both", "1,2/3,4", desk -> desk.swapRows(line, line), UNKNOWN);
        }
    }

    @Says(at = "Promise 4", words = "Returns how many entries of the matrix are unlike then;")
    void swapRowsCountsEntriesThatAreUnlike() {
        due("one column", Desks.of("1,2/1,3").swapRows(0, 1), 2);
        due("two columns", Desks.of("1,2,3/1,5,4/0,0,0").swapRows(0, 1), 4);
        due("three columns", Desks.of("1,2,3/1,5,3/0,0,0").swapRows(2, 0), 6);
        PermanentDesk seven = Desks.ofAll(7, 1);
        seven.multiply(6, -1);
        due("seven columns", seven.swapRows(0, 6), 14);
    }

    @Says(at = "Promise 4", words = "NONE if none is.")
    void swapRowsOfLikeRowsIsNone() {
        dueRefused("swapRows(0, 1) of like rows", "4,5/4,5", desk -> desk.swapRows(0, 1), NONE);
        dueRefused("swapRows(0, 2) of like rows", "4,5,6/0,0,0/4,5,6", desk -> desk.swapRows(0, 2), NONE);
        dueRefused("swapRows(0, 0) of one row", "4", desk -> desk.swapRows(0, 0), NONE);
        for (int line = 0; line < 3; line++) {
            int same = line;
            dueRefused("swapRows of a row and itself", ONE_TO_NINE, desk -> desk.swapRows(same, same), NONE);
        }
    }

    @Says(at = "Promise 5", words = "Exchanges two columns.")
    void swapColumnsExchangesColumns() {
        dueChange("swapColumns(0, 1)", ONE_TO_NINE, desk -> desk.swapColumns(0, 1), "2,1,3/5,4,6/8,7,9");
        dueChange("swapColumns(2, 1)", ONE_TO_NINE, desk -> desk.swapColumns(2, 1), "1,3,2/4,6,5/7,9,8");
        for (int one = 0; one < 7; one++) {
            for (int other = 0; other < 7; other++) {
                PermanentDesk desk = Desks.ofDiagonal(7, 123456);
                int unlike = desk.swapColumns(one, other);
                due("swapColumns(" + one + ", " + other + ")", unlike, one == other ? NONE : 4);
                due("the one column", desk.entry(other, one), 1);
                due("the other column", desk.entry(one, other), 1);
            }
        }
    }

    @Says(at = "Promise 5", words = "This is a change.")
    void swapColumnsIsAChange() {
        dueChange("swapColumns(1, 0)", "1,1/2,3", desk -> desk.swapColumns(1, 0), "1,1/3,2");
    }

    @Says(at = "Promise 5", words = {"`one`: a column", "`other`: a column", "UNKNOWN;"})
    void swapColumnsTakesColumnsThatThereAre() {
        dueLines("swapColumns, one", (desk, line, other) -> desk.swapColumns(line, other), UNKNOWN);
        dueLines("swapColumns, other", (desk, line, other) -> desk.swapColumns(other, line), UNKNOWN);
        for (int line : noLines(2)) {
            dueRefused("swapColumns of one", "1,2/3,4", desk -> desk.swapColumns(line, 0), UNKNOWN);
            dueRefused("swapColumns of the other", "1,2/3,4", desk -> desk.swapColumns(0, line), UNKNOWN);
            dueRefused("swapColumns of both", "1,2/3,4", desk -> desk.swapColumns(line, line), UNKNOWN);
        }
    }

    @Says(at = "Promise 5", words = "Returns how many entries of the matrix are unlike then;")
    void swapColumnsCountsEntriesThatAreUnlike() {
        due("one row", Desks.of("1,1/2,3").swapColumns(0, 1), 2);
        due("two rows", Desks.of("1,1,0/2,5,0/3,4,0").swapColumns(0, 1), 4);
        due("three rows", Desks.of("1,1,0/2,5,0/3,3,0").swapColumns(2, 0), 6);
        PermanentDesk seven = Desks.ofAll(7, 1);
        seven.multiply(6, -1);
        seven.transpose();
        due("seven rows", seven.swapColumns(0, 6), 14);
    }

    @Says(at = "Promise 5", words = "NONE if none is.")
    void swapColumnsOfLikeColumnsIsNone() {
        dueRefused("swapColumns(0, 1) of like columns", "4,4/5,5", desk -> desk.swapColumns(0, 1), NONE);
        dueRefused("swapColumns(0, 2) of like columns", "4,0,4/5,0,5/6,0,6", desk -> desk.swapColumns(0, 2), NONE);
        dueRefused("swapColumns(0, 0) of one column", "4", desk -> desk.swapColumns(0, 0), NONE);
        for (int line = 0; line < 3; line++) {
            int same = line;
            dueRefused("swapColumns of a column and itself", ONE_TO_NINE, desk -> desk.swapColumns(same, same), NONE);
        }
    }

    // ---- transpose

    @Says(at = "Promise 6", words = "Makes rows columns, and columns rows.")
    void transposeMakesRowsColumns() {
        dueChange("transpose()", "1,2/3,4", desk -> desk.transpose(), "1,3/2,4");
        dueChange("transpose()", "1,2,3/4,5,6/3,6,9", desk -> desk.transpose(), "1,4,3/2,5,6/3,6,9");
        PermanentDesk seven = Desks.ofDiagonal(7, 1234560);
        due("transpose() of 7 rows", seven.transpose(), 14);
        dueMatrix("transpose() of 7 rows", seven, Desks.matrix(Desks.ofDiagonal(7, 6012345)));
    }

    @Says(at = "Promise 6", words = "This is a change.")
    void transposeIsAChange() {
        dueChange("transpose()", ONE_TO_NINE, desk -> desk.transpose(), "1,4,7/2,5,8/3,6,9");
    }

    @Says(at = "Promise 6", words = "Returns how many entries of the matrix are unlike then;")
    void transposeCountsEntriesThatAreUnlike() {
        due("two", Desks.of("1,2,3/4,5,6/3,6,9").transpose(), 2);
        due("six", Desks.of(ONE_TO_NINE).transpose(), 6);
        PermanentDesk seven = new PermanentDesk();
        seven.clear(7);
        for (int cell = 0; cell < 49; cell++) {
            seven.set(cell / 7, cell % 7, cell / 7 < cell % 7 ? 1 : 0);
        }
        due("all but one diagonal", seven.transpose(), 42);
    }

    @Says(at = "Promise 6", words = "NONE if none is.")
    void transposeOfTheSymmetricIsNone() {
        dueRefused("transpose()", "5", desk -> desk.transpose(), NONE);
        dueRefused("transpose()", "1,2/2,3", desk -> desk.transpose(), NONE);
        dueRefused("transpose()", "1,2,-3/2,4,5/-3,5,6", desk -> desk.transpose(), NONE);
        dueRefused("transpose()", ZEROS, desk -> desk.transpose(), NONE);
    }

    // ---- multiply

    @Says(at = "Promise 7", words = "Multiplies a row.")
    void multiplyMultipliesOneRow() {
        dueChange("multiply(0, 2)", ONE_TO_NINE, desk -> desk.multiply(0, 2), "2,4,6/4,5,6/7,8,9");
        dueChange("multiply(2, -2)", ONE_TO_NINE, desk -> desk.multiply(2, -2), "1,2,3/4,5,6/-14,-16,-18");
        dueChange("multiply(1, 0)", ONE_TO_NINE, desk -> desk.multiply(1, 0), "1,2,3/0,0,0/7,8,9");
        for (int row = 0; row < 7; row++) {
            PermanentDesk desk = Desks.of(Desks.textOfAll(7, 2));
            due("multiply(" + row + ", 9)", desk.multiply(row, 9), 7);
            due("the row", desk.lineSum(row, false), 7 * 18);
            due("the matrix", desk.total(2), 42 * 2 + 7 * 18);
        }
    }

    @Says(at = "Promise 7", words = "This is a change.")
    void multiplyIsAChange() {
        dueChange("multiply(0, 9)", "2,0/3,4", desk -> desk.multiply(0, 9), "18,0/3,4");
    }

    @Says(at = "Promise 7", words = {"`row`: a row", "UNKNOWN;"})
    void multiplyTakesRowsThatThereAre() {
        dueLines("multiply", (desk, line, other) -> desk.multiply(line, 2), UNKNOWN);
        for (int line : noLines(2)) {
            dueRefused("multiply(" + line + ", 2)", "1,2/3,4", desk -> desk.multiply(line, 2), UNKNOWN);
            dueRefused("multiply(" + line + ", 1)", "1,2/3,4", desk -> desk.multiply(line, 1), UNKNOWN);
            dueRefused("multiply(" + line + ", 10)", "1,2/3,4", desk -> desk.multiply(line, 10), UNKNOWN);
        }
    }

    @Says(at = "Promise 7", words = {"`factor`: -9 to 9", "OUT_OF_RANGE;"})
    void multiplyTakesFactorsFromMinus9To9() {
        for (int factor = -9; factor <= 9; factor++) {
            PermanentDesk desk = Desks.of("2,-1/0,0");
            due("multiply(0, " + factor + ")", desk.multiply(0, factor), factor == 1 ? NONE : 2);
            dueMatrix("multiply(0, " + factor + ")", desk, 2 * factor + "," + -factor + "/0,0");
        }
        for (int factor : new int[] {-10, 10, -11, 11, 20, 256, 257, 1 << 16, 1 << 30, MIN, MIN + 1, MAX}) {
            dueRefused("multiply(0, " + factor + ")", "1,0/0,0", desk -> desk.multiply(0, factor), OUT_OF_RANGE);
            dueRefused("multiply(1, " + factor + ")", "1,0/0,0", desk -> desk.multiply(1, factor), OUT_OF_RANGE);
        }
    }

    @Says(at = "Promise 7", words = "Returns how many entries of the matrix are unlike then;")
    void multiplyCountsEntriesThatAreUnlike() {
        due("zeros stay", Desks.of("2,0,-2/1,1,1/1,1,1").multiply(0, 9), 2);
        due("all", Desks.of("2,1,-2/1,1,1/1,1,1").multiply(0, -1), 3);
        due("one", Desks.of("0,0,1/1,1,1/1,1,1").multiply(0, 0), 1);
    }

    @Says(at = "Promise 7", words = "NOT_POSSIBLE if an entry would be out of its range;")
    void multiplyIsNotPossibleIfAnEntryWouldBeTooGreat() {
        for (int column = 0; column < 7; column++) {
            for (int entry = -20; entry <= 20; entry++) {
                PermanentDesk desk = Desks.of(Desks.textOfAll(7, 1));
                desk.set(3, column, entry);
                int factor = column % 2 == 0 ? 3 : -3;
                boolean isPossible = Math.abs(entry) * 3 <= 20;
                int unlike = entry == 0 ? 6 : 7;
                due(entry + " by " + factor, desk.multiply(3, factor), isPossible ? unlike : NOT_POSSIBLE);
                int by = isPossible ? factor : 1;
                due("the entry", desk.entry(3, column), entry * by);
                due("the next entry", desk.entry(3, (column + 1) % 7), by);
                due("the row below it", desk.lineSum(4, false), 7);
            }
        }
        due("to 20", Desks.of("10").multiply(0, 2), 1);
        due("to -20", Desks.of("10").multiply(0, -2), 1);
        due("from -20 to 20", Desks.of("-20").multiply(0, -1), 1);
        dueRefused("to 21", "7", desk -> desk.multiply(0, 3), NOT_POSSIBLE);
        dueRefused("to -21", "-7", desk -> desk.multiply(0, 3), NOT_POSSIBLE);
        dueRefused("multiply(0, 2), the last entry", "1,1,20/0,0,0/0,0,0", desk -> desk.multiply(0, 2), NOT_POSSIBLE);
        dueRefused("multiply(0, 2), the first entry", "-20,1,1/0,0,0/0,0,0", desk -> desk.multiply(0, 2), NOT_POSSIBLE);
        due("entries of other rows do not matter", Desks.of("1,1/20,20").multiply(0, 9), 2);
    }

    @Says(at = "Promise 7", words = "NONE if none is.")
    void multiplyThatChangesNothingIsNone() {
        dueRefused("multiply(0, 1)", "20,-20/3,4", desk -> desk.multiply(0, 1), NONE);
        for (int factor = -9; factor <= 9; factor++) {
            int by = factor;
            dueRefused("multiply(1, " + factor + ") of zeros", "1,2/0,0", desk -> desk.multiply(1, by), NONE);
        }
    }

    // ---- add

    @Says(at = "Promise 8", words = "Adds 1 to each entry of a diagonal.")
    void addMakesEachEntryOfADiagonalOneMore() {
        dueChange("add(12)", "19,0,0/0,-20,0/0,0,-1", desk -> desk.add(12), "20,0,0/0,-19,0/0,0,0");
        dueChange("add(21)", ONE_TO_NINE, desk -> desk.add(21), "2,2,3/4,5,7/7,9,9");
        dueChange("add(210)", ONE_TO_NINE, desk -> desk.add(210), "1,2,4/4,6,6/8,8,9");
        dueChange("add(0)", "5", desk -> desk.add(0), "6");
        PermanentDesk seven = Desks.ofDiagonal(7, 1023456);
        dueMatrix("add(1023456)", seven, "0,1,0,0,0,0,0/1,0,0,0,0,0,0/0,0,1,0,0,0,0/0,0,0,1,0,0,0/0,0,0,0,1,0,0/"
            + "0,0,0,0,0,1,0/0,0,0,0,0,0,1");
    }

    @Says(at = "Promise 8", words = "This is a change.")
    void addIsAChange() {
        dueChange("add(10)", "1,2/3,4", desk -> desk.add(10), "1,3/4,4");
    }

    @Says(at = "Promise 8", words = {"`diagonal`: a diagonal, as a number", "UNKNOWN if this is no diagonal;"})
    void addTakesDiagonals() {
        for (int number : new int[] {12, 21, 102, 120, 201, 210}) {
            due("add(" + number + ")", new PermanentDesk().add(number), 3);
        }
        for (int number : new int[] {-1, 0, 1, 3, 11, 13, 22, 100, 123, 211, 213, 310, 1012, 10012, 210210, -12, -210,
            MIN, MAX, MIN + 12, (1 << 16) + 12, 256 + 12}) {
            dueRefused("add(" + number + ")", ONE_TO_NINE, desk -> desk.add(number), UNKNOWN);
        }
        for (int number : new int[] {-1, 1, 10, 100, MIN, MAX}) {
            dueRefused("add(" + number + ")", "5", desk -> desk.add(number), UNKNOWN);
        }
        due("the first of 7 rows", Desks.ofAll(7, 1).add(123456), 14);
        due("the last of 7 rows", Desks.ofAll(7, 1).add(6543210), 14);
        due("one behind it", Desks.ofAll(7, 1).add(6543211), UNKNOWN);
        due("an eighth column", Desks.ofAll(7, 1).add(7543210), UNKNOWN);
        due("an eighth row", Desks.ofAll(7, 1).add(76543210), UNKNOWN);
        due("one of 2 rows", new PermanentDesk().add(10), UNKNOWN);
    }

    @Says(at = "Promise 8", words = "Returns the sum of its entries then;")
    void addTellsTheSumOfTheDiagonal() {
        due("of zeros", new PermanentDesk().add(12), 3);
        due("of some", Desks.of("19,0,0/0,0,-20/0,5,0").add(21), 20 - 19 + 6);
        due("to 0", Desks.of("-1").add(0), 0);
        due("the greatest", Desks.ofAll(7, 19).add(6543210), 140);
        due("the least", Desks.ofAll(7, -20).add(6543210), -133);
        PermanentDesk twice = new PermanentDesk();
        twice.add(12);
        due("once more", twice.add(12), 6);
    }

    @Says(at = "Promise 8", words = "NOT_POSSIBLE if an entry would be out of its range.")
    void addIsNotPossibleIfAnEntryWouldBeTooGreat() {
        for (int row = 0; row < 7; row++) {
            PermanentDesk high = new PermanentDesk();
            high.clear(7);
            high.set(row, 6 - row, 20);
            due("20 in the row " + row, high.add(6543210), NOT_POSSIBLE);
            due("no entry is more", high.total(2), 20);
            due("no state is more", high.total(7), 2);
            high.set(row, 6 - row, 19);
            due("19 in the row " + row, high.add(6543210), 26);
        }
        dueRefused("add(21)", "20,0,0/0,0,-19/0,6,0", desk -> desk.add(21), NOT_POSSIBLE);
        dueRefused("add(12)", "1,0,0/0,2,0/0,0,20", desk -> desk.add(12), NOT_POSSIBLE);
        dueRefused("add(0)", "20", desk -> desk.add(0), NOT_POSSIBLE);
        due("a 20 elsewhere does not matter", Desks.of("1,20/20,1").add(1), 4);
    }
}
