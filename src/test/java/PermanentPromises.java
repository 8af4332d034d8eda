/** The sentences of the promises 15 to 22: what there is, and permanents. */
final class PermanentPromises extends SentenceGroup {
    PermanentPromises(Checks checks) {
        super(checks);
    }

    // ---- entry

    @Says(at = "Promise 15", words = {"Returns an entry.", "Returns the entry;"})
    void entryTellsAnEntry() {
        PermanentDesk desk = Desks.of("1,2,3/-4,5,6/7,0,-20");
        int[] want = {1, 2, 3, -4, 5, 6, 7, 0, -20};
        for (int cell = 0; cell < 9; cell++) {
            due("entry " + cell, desk.entry(cell / 3, cell % 3), want[cell]);
        }
        PermanentDesk seven = new PermanentDesk();
        seven.clear(7);
        for (int cell = 0; cell < 49; cell++) {
            seven.set(cell / 7, cell % 7, cell % 41 - 20);
        }
        for (int cell = 0; cell < 49; cell++) {
            due("entry " + cell, seven.entry(cell / 7, cell % 7), cell % 41 - 20);
        }
    }

    @Says(at = "Promise 15", words = {"`row`: a row", "`column`: a column", "UNKNOWN."})
    void entryTakesRowsAndColumnsThatThereAre() {
        dueLines("entry, row", (desk, line, other) -> desk.entry(line, other), UNKNOWN);
        dueLines("entry, column", (desk, line, other) -> desk.entry(other, line), UNKNOWN);
        PermanentDesk shrunk = Desks.of(ONE_TO_NINE);
        shrunk.clear(1);
        due("entry(0, 1) of what there was", shrunk.entry(0, 1), UNKNOWN);
        due("entry(1, 0) of what there was", shrunk.entry(1, 0), UNKNOWN);
    }

    // ---- total

    private void dueTotals(String matrix, int... want) {
        PermanentDesk desk = Desks.of(matrix);
        for (int what = 0; what < want.length; what++) {
            due("total(" + what + ") of " + matrix, desk.total(what), want[what]);
        }
    }

    @Says(at = "Promise 16", words = {"Returns a number of the matrix.", "Returns the number;"})
    void totalTellsNumbers() {
        dueTotals("1,2,3/-4,5,0/7,0,-20", 3, 7, -6, 7, -20, 0, 0, 1, 0);
        dueTotals("-3,-2/-2,-3", 2, 4, -10, -2, -3, 1, 1, 1, 0);
        dueTotals("0,0/0,0", 2, 0, 0, 0, 0, 1, 1, 1, 0);
        dueTotals("-7", 1, 1, -7, -7, -7, 1, 1, 1, 0);
        dueTotals(Desks.textOfAll(7, 9), 7, 49, 441, 9, 9, 1, 1, 1, 0);
    }

    @Says(at = "Promise 16", words = "`what`: 0 for its rows,")
    void total0IsTheNumberOfRows() {
        for (int rows = 1; rows <= 7; rows++) {
            due("total(0)", Desks.ofAll(rows, 2).total(0), rows);
        }
    }

    @Says(at = "Promise 16", words = "1 for entries that are not 0,")
    void total1CountsEntriesThatAreNot0() {
        for (int rows = 1; rows <= 7; rows++) {
            due("zeros", Desks.ofAll(rows, 0).total(1), 0);
            for (int cell = 0; cell < rows * rows; cell++) {
                PermanentDesk desk = Desks.ofAll(rows, 0);
                desk.set(cell / rows, cell % rows, cell % 2 == 0 ? -1 : 1);
                due("total(1), cell " + cell, desk.total(1), 1);
            }
        }
        due("all", Desks.ofAll(7, -20).total(1), 49);
    }

    @Says(at = "Promise 16", words = "2 for the sum of all entries,")
    void total2IsTheSumOfAllEntries() {
        due("the least", Desks.ofAll(7, -20).total(2), -980);
        due("the greatest", Desks.ofAll(7, 20).total(2), 980);
        due("a sum of 0", Desks.of("3,-3/-3,3").total(2), 0);
        for (int cell = 0; cell < 49; cell++) {
            PermanentDesk desk = Desks.ofAll(7, 0);
            desk.set(cell / 7, cell % 7, -13);
            due("total(2), cell " + cell, desk.total(2), -13);
        }
    }

    @Says(at = "Promise 16", words = {"3 for the greatest entry,", "4 for the least one,"})
    void total3And4AreTheGreatestAndTheLeastEntry() {
        for (int rows = 1; rows <= 7; rows += 2) {
            for (int cell = 0; cell < rows * rows; cell++) {
                PermanentDesk desk = Desks.ofAll(rows, -5);
                desk.set(cell / rows, cell % rows, -4);
                due("total(3), cell " + cell, desk.total(3), -4);
                due("total(4), cell " + cell, desk.total(4), rows == 1 ? -4 : -5);
                desk.set(cell / rows, cell % rows, -6);
                due("total(3), cell " + cell, desk.total(3), rows == 1 ? -6 : -5);
                due("total(4), cell " + cell, desk.total(4), -6);
            }
        }
        for (int rows = 1; rows <= 7; rows++) {
            // What is outside of the matrix is no entry, so it is not the 0 between these.
            due("all are 3: total(3)", Desks.ofAll(rows, 3).total(3), 3);
            due("all are 3: total(4)", Desks.ofAll(rows, 3).total(4), 3);
            due("all are -3: total(3)", Desks.ofAll(rows, -3).total(3), -3);
            due("all are -3: total(4)", Desks.ofAll(rows, -3).total(4), -3);
        }
        due("all are greater than 0", Desks.of("5,6/7,8").total(4), 5);
        due("all are less than 0", Desks.of("-5,-6/-7,-8").total(3), -5);
        due("the greatest that there can be", Desks.of("-20,20/0,0").total(3), 20);
        due("the least that there can be", Desks.of("-20,20/0,0").total(4), -20);
    }

    @Says(at = "Promise 16", words = "5 for whether it is symmetric (1, otherwise 0),")
    void total5IsWhetherItIsSymmetric() {
        due("one row", Desks.of("-3").total(5), 1);
        due("two rows", Desks.of("1,2/2,3").total(5), 1);
        due("a sign", Desks.of("1,2/-2,3").total(5), 0);
        due("the other diagonal alone", Desks.of("1,2,3/4,5,2/6,4,1").total(5), 0);
        for (int cell = 0; cell < 49; cell++) {
            PermanentDesk desk = Desks.of(Desks.textOfAll(7, 1));
            due("symmetric", desk.total(5), 1);
            desk.set(cell / 7, cell % 7, 2);
            due("total(5), cell " + cell, desk.total(5), cell / 7 == cell % 7 ? 1 : 0);
        }
    }

    @Says(at = "Promise 16", words = "6 for whether all rows and columns have the same sum (1, otherwise 0),")
    void total6IsWhetherAllLinesHaveTheSameSum() {
        due("one row", Desks.of("-3").total(6), 1);
        due("zeros", Desks.ofAll(7, 0).total(6), 1);
        due("a sum below 0", Desks.of("-3,1/1,-3").total(6), 1);
        due("like rows alone", Desks.of("1,2/1,2").total(6), 0);
        due("like columns alone", Desks.of("1,1/2,2").total(6), 0);
        due("like rows, like columns, but unlike each other", Desks.of("1,2/2,0").total(6), 0);
        due("not symmetric", Desks.of("0,1,0/0,0,1/1,0,0").total(6), 1);
        for (int cell = 0; cell < 49; cell++) {
            PermanentDesk desk = Desks.of(Desks.textOfAll(7, 1));
            desk.set(cell / 7, cell % 7, 2);
            due("total(6), cell " + cell, desk.total(6), 0);
        }
        for (int line = 0; line < 6; line++) {
            PermanentDesk desk = Desks.of(Desks.textOfAll(7, 1));
            desk.set(line, 3, 0);
            desk.set(line + 1, 3, 2);
            due("two rows are off", desk.total(6), 0);
            desk.transpose();
            due("two columns are off", desk.total(6), 0);
        }
    }

    @Says(at = "Promise 16", words = "7 for the states in the history,")
    void total7CountsTheStates() {
        PermanentDesk desk = new PermanentDesk();
        for (int changes = 0; changes <= 12; changes++) {
            due("total(7)", desk.total(7), Math.min(changes, 4));
            desk.set(0, 0, changes + 1);
        }
        desk.keep();
        desk.type('1');
        due("keep and type are no changes", desk.total(7), 4);
        desk.undo();
        due("behind undo()", desk.total(7), 3);
        desk.restore();
        due("behind restore()", desk.total(7), 4);
    }

    @Says(at = "Promise 16", words = "8 for the length of the text")
    void total8IsTheLengthOfTheText() {
        PermanentDesk desk = new PermanentDesk();
        for (int length = 0; length <= 110; length++) {
            due("total(8)", desk.total(8), Math.min(length, 100));
            desk.type('x');
        }
        desk.clearText();
        due("total(8) behind clearText()", desk.total(8), 0);
    }

    @Says(at = "Promise 16", words = "OUT_OF_RANGE.")
    void totalIsOutOfRange() {
        for (int what : new int[] {-1, 9, 10, 100, 256, 257, 1 << 16, MIN, MIN + 1, MAX}) {
            due("total(" + what + ")", Desks.of(ONE_TO_NINE).total(what), OUT_OF_RANGE);
        }
        for (int what = 0; what <= 8; what++) {
            holds("total(" + what + ") is in range", Desks.of(ONE_TO_NINE).total(what) != OUT_OF_RANGE);
        }
    }

    // ---- lineSum

    @Says(at = "Promise 17", words = {"Returns the sum of a line.", "Returns the sum;"})
    void lineSumTellsSums() {
        PermanentDesk desk = Desks.of("1,2,3/-4,5,6/7,8,-20");
        int[] rows = {6, 7, -5};
        int[] columns = {4, 15, -11};
        for (int line = 0; line < 3; line++) {
            due("lineSum(" + line + ", false)", desk.lineSum(line, false), rows[line]);
            due("lineSum(" + line + ", true)", desk.lineSum(line, true), columns[line]);
        }
        due("one row", Desks.of("-9").lineSum(0, false), -9);
        due("one column", Desks.of("-9").lineSum(0, true), -9);
        due("the greatest", Desks.ofAll(7, 20).lineSum(6, false), 140);
        due("the least", Desks.ofAll(7, -20).lineSum(6, true), -140);
    }

    @Says(at = "Promise 17", words = {"`line`: a row or a column", "UNKNOWN."})
    void lineSumTakesLinesThatThereAre() {
        dueLines("lineSum of a row", (desk, line, other) -> desk.lineSum(line, false), UNKNOWN);
        dueLines("lineSum of a column", (desk, line, other) -> desk.lineSum(line, true), UNKNOWN);
    }

    @Says(at = "Promise 17", words = "`isColumn`: whether a column is meant")
    void lineSumTellsRowsAndColumnsApart() {
        for (int line = 0; line < 7; line++) {
            PermanentDesk desk = Desks.ofAll(7, 0);
            desk.set(line, 6 - line, 5);
            for (int other = 0; other < 7; other++) {
                due("the row " + other, desk.lineSum(other, false), other == line ? 5 : 0);
                due("the column " + other, desk.lineSum(other, true), other == 6 - line ? 5 : 0);
            }
        }
    }

    // ---- permanent and determinant

    @Says(at = "Promise 18", words = "Returns the permanent.")
    void permanentIsTheSumOfProducts() {
        due("zeros", new PermanentDesk().permanent(), 0);
        for (int rows = 1, factorial = 1; rows <= 7; rows++, factorial *= rows) {
            due("ones", Desks.ofAll(rows, 1).permanent(), factorial);
            due("-1", Desks.ofAll(rows, -1).permanent(), rows % 2 == 0 ? factorial : -factorial);
            PermanentDesk desk = Desks.ofAll(rows, 1);
            desk.multiply(rows - 1, 0);
            due("zeros in the last row", desk.permanent(), 0);
        }
        due("the greatest", Desks.ofAll(7, 20).permanent(), 6451200000000L);
        dueAsByDefinition(MATRICES, desk -> desk.permanent(), slow -> slow.permanent());
    }

    @Says(at = "Promise 19", words = "Returns the determinant.")
    void determinantIsTheSumOfSignedProducts() {
        due("zeros", new PermanentDesk().determinant(), 0);
        for (int rows = 2; rows <= 7; rows++) {
            due("like rows", Desks.ofAll(rows, 20).determinant(), 0);
            PermanentDesk desk = Desks.ofAll(rows, 0);
            for (int line = 0; line < rows; line++) {
                desk.set(line, line, -1);
            }
            due("-1 on the first diagonal", desk.determinant(), rows % 2 == 0 ? 1 : -1);
            due("an exchange of rows", desk.swapRows(0, rows - 1), 4);
            due("changes the sign", desk.determinant(), rows % 2 == 0 ? -1 : 1);
        }
        PermanentDesk seven = Desks.ofAll(7, 0);
        for (int line = 0; line < 7; line++) {
            seven.set(line, 6 - line, 20);
        }
        due("seven rows", seven.determinant(), -1280000000L);
        dueAsByDefinition(MATRICES, desk -> desk.determinant(), slow -> slow.determinant());
    }

    private static final String[] MATRICES = {"-9", "1,2/3,4", "2,0,1/1,3,2/1,1,4", "0,1,0,2/3,0,4,0/0,5,0,6/7,0,8,0",
        "1,-2,3,-4,5/-5,4,-3,2,-1/0,1,0,1,0/9,9,9,9,8/2,-3,5,-7,11",
        "1,2,3,4,5,6/6,5,4,3,2,1/1,0,1,0,1,0/2,-2,2,-2,2,-2/7,1,7,1,7,2/0,0,3,0,0,3",
        "1,2,3,4,5,6,7/2,3,4,5,6,7,8/9,1,8,2,7,3,6/1,1,2,3,5,8,1/3,1,4,1,5,9,2/2,7,1,8,2,8,1/1,4,1,4,2,1,3"};

    private interface SlowCall {
        long on(SlowDesk desk);
    }

    private void dueAsByDefinition(String[] matrices, Call call, SlowCall slowCall) {
        for (String matrix : matrices) {
            due("of " + matrix, call.on(Desks.of(matrix)), slowCall.on(Desks.slowOf(matrix)));
        }
    }

    // ---- minor

    @Says(at = "Promise 20", words = {
        "Returns the permanent of the matrix without a row and a column.",
        "Returns the permanent"})
    void minorIsThePermanentOfWhatIsLeft() {
        PermanentDesk desk = Desks.of(ONE_TO_NINE);
        int[] want = {5 * 9 + 6 * 8, 4 * 9 + 6 * 7, 4 * 8 + 5 * 7, 2 * 9 + 3 * 8, 1 * 9 + 3 * 7, 1 * 8 + 2 * 7,
            2 * 6 + 3 * 5, 1 * 6 + 3 * 4, 1 * 5 + 2 * 4};
        for (int cell = 0; cell < 9; cell++) {
            due("minor at " + cell, desk.minor(cell / 3, cell % 3), want[cell]);
        }
        due("two rows", Desks.of("1,-2/3,4").minor(1, 0), -2);
        due("seven rows", Desks.ofAll(7, 20).minor(3, 6), 720L * 64000000L);
        for (int cell = 0; cell < 49; cell++) {
            int row = cell / 7, column = cell % 7;
            dueAsByDefinition(MATRICES, d -> d.minor(row, column), slow -> slow.minor(row, column));
        }
    }

    @Says(at = "Promise 20", words = {"`row`: a row", "`column`: a column", "LONG_UNKNOWN."})
    void minorTakesRowsAndColumnsThatThereAre() {
        dueLines("minor, row", (desk, line, other) -> desk.minor(line, other), LONG_UNKNOWN);
        dueLines("minor, column", (desk, line, other) -> desk.minor(other, line), LONG_UNKNOWN);
    }

    @Says(at = "Promise 20", words = "(1 if nothing is left);")
    void minorOfOneRowIs1() {
        for (int entry = -20; entry <= 20; entry += 10) {
            due("minor(0, 0) of " + entry, Desks.of(Integer.toString(entry)).minor(0, 0), 1);
        }
    }

    // ---- permanentOf

    @Says(at = "Promise 21", words = {
        "Returns the permanent of sets of rows and columns.",
        "Returns the permanent;"})
    void permanentOfIsThePermanentOfTheSets() {
        PermanentDesk desk = Desks.of(ONE_TO_NINE);
        due("permanentOf(0, 0)", desk.permanentOf(0, 0), 1);
        due("permanentOf(1, 4)", desk.permanentOf(1, 4), 3);
        due("permanentOf(4, 1)", desk.permanentOf(4, 1), 7);
        due("permanentOf(3, 6)", desk.permanentOf(3, 6), 2 * 6 + 3 * 5);
        due("permanentOf(5, 3)", desk.permanentOf(5, 3), 1 * 8 + 2 * 7);
        due("permanentOf(7, 7)", desk.permanentOf(7, 7), 450);
        for (String matrix : MATRICES) {
            dueAllPairsOfSets(matrix, Desks.slowOf(matrix));
        }
    }

    private void dueAllPairsOfSets(String matrix, SlowDesk slow) {
        for (int rows = 0; rows < 1 << slow.total(0); rows++) {
            PermanentDesk desk = Desks.of(matrix);
            for (int columns = 0; columns < 1 << slow.total(0); columns++) {
                if (Integer.bitCount(rows) == Integer.bitCount(columns)) {
                    due("permanentOf(" + rows + ", " + columns + ") of " + matrix, desk.permanentOf(rows, columns),
                        slow.permanentOf(rows, columns));
                }
            }
        }
    }

    @Says(at = "Promise 21", words = {
        "`rows`: a set of rows",
        "`columns`: a set of columns",
        "LONG_UNKNOWN if a set has a member that there is not;"})
    void permanentOfTakesMembersThatThereAre() {
        for (int rows = 1; rows <= 7; rows++) {
            int all = (1 << rows) - 1;
            PermanentDesk desk = Desks.ofAll(rows, 1);
            holds("all rows and columns of " + rows, desk.permanentOf(all, all) > 0);
            holds("the last of " + rows, desk.permanentOf(1 << rows - 1, 1 << rows - 1) == 1);
            for (int member = rows; member < 32; member++) {
                int set = 1 << member;
                due("the row " + member, desk.permanentOf(set, 1), LONG_UNKNOWN);
                due("the column " + member, desk.permanentOf(1, set), LONG_UNKNOWN);
                due("the row " + member + " and another", desk.permanentOf(set | 1, 1), LONG_UNKNOWN);
                due("the column " + member + " and another", desk.permanentOf(1, set | 1), LONG_UNKNOWN);
                due("the row and the column " + member, desk.permanentOf(set, set), LONG_UNKNOWN);
                due("the row " + member + " alone", desk.permanentOf(set, 0), LONG_UNKNOWN);
                due("the column " + member + " alone", desk.permanentOf(0, set), LONG_UNKNOWN);
            }
        }
        for (int set : new int[] {-1, MIN, MAX, -2, 127}) {
            due("permanentOf(" + set + ", 1)", new PermanentDesk().permanentOf(set, 1), LONG_UNKNOWN);
            due("permanentOf(1, " + set + ")", new PermanentDesk().permanentOf(1, set), LONG_UNKNOWN);
        }
    }

    @Says(at = "Promise 21", words = "LONG_NOT_POSSIBLE if they have not as many members.")
    void permanentOfNeedsAsManyMembers() {
        PermanentDesk desk = Desks.ofAll(7, 1);
        int[] sets = {0, 1, 3, 7, 15, 31, 63, 127};
        for (int rows = 0; rows <= 7; rows++) {
            for (int columns = 0; columns <= 7; columns++) {
                long answer = desk.permanentOf(sets[rows], sets[columns]);
                holds(rows + " rows and " + columns + " columns", (answer == LONG_NOT_POSSIBLE) == (rows != columns));
            }
        }
        due("as many, but others", desk.permanentOf(112, 7), 6);
    }

    // ---- sumOf

    @Says(at = "Promise 22", words = {
        "Returns the sum of all permanents of k rows and k columns.",
        "Returns the sum;"})
    void sumOfIsTheSumOfPermanents() {
        PermanentDesk desk = Desks.of(ONE_TO_NINE);
        due("sumOf(0)", desk.sumOf(0), 1);
        due("sumOf(1)", desk.sumOf(1), 45);
        due("sumOf(2)", desk.sumOf(2), 93 + 78 + 67 + 42 + 30 + 22 + 27 + 18 + 13);
        due("sumOf(3)", desk.sumOf(3), 450);
        due("two rows: sumOf(1)", Desks.of("1,-2/3,4").sumOf(1), 6);
        due("two rows: sumOf(2)", Desks.of("1,-2/3,4").sumOf(2), -2);
        long[] sevens = {1, 49, 441 * 2, 1225 * 6, 1225 * 24, 441 * 120, 49 * 720, 5040};
        PermanentDesk ones = Desks.ofAll(7, 1);
        PermanentDesk least = Desks.ofAll(7, -20);
        long power = 1;
        for (int k = 0; k <= 7; k++) {
            due("ones: sumOf(" + k + ")", ones.sumOf(k), sevens[k]);
            due("-20: sumOf(" + k + ")", least.sumOf(k), sevens[k] * power);
            power *= -20;
        }
        for (int k = 0; k <= 4; k++) {
            int size = k;
            dueAsByDefinition(MATRICES, d -> d.sumOf(size), slow -> slow.sumOf(size));
        }
    }

    @Says(at = "Promise 22", words = {"`k`: 0 to the number of rows", "LONG_OUT_OF_RANGE."})
    void sumOfTakes0ToTheNumberOfRows() {
        for (int rows = 1; rows <= 7; rows++) {
            PermanentDesk desk = Desks.ofAll(rows, 1);
            for (int k = 0; k <= rows; k++) {
                holds("sumOf(" + k + ") of " + rows + " rows", desk.sumOf(k) > 0);
            }
            for (int k : noCounts(rows)) {
                due("sumOf(" + k + ") of " + rows + " rows", desk.sumOf(k), LONG_OUT_OF_RANGE);
            }
        }
    }
}
