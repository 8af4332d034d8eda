/** The sentences of the promises 23 to 29: diagonals and expansions. */
final class DiagonalPromises extends SentenceGroup {
    DiagonalPromises(Checks checks) {
        super(checks);
    }

    // ---- whole diagonals

    @Says(at = "Promise 23", words = {"Returns how many diagonals are whole.", "Returns how many."})
    void wholeDiagonalsCountsThem() {
        due("zeros", new PermanentDesk().wholeDiagonals(), 0);
        due("one zero", Desks.of("0").wholeDiagonals(), 0);
        due("one row", Desks.of("-1").wholeDiagonals(), 1);
        due("signs do not count", Desks.of("1,1/1,-1").wholeDiagonals(), 2);
        due("without the middle", Desks.of("0,1,1/1,0,1/1,1,0").wholeDiagonals(), 2);
        due("a triangle", Desks.of("1,0,0/1,1,0/1,1,1").wholeDiagonals(), 1);
        for (int rows = 1, factorial = 1; rows <= 7; rows++, factorial *= rows) {
            due("all of " + rows + " rows", Desks.ofAll(rows, -1).wholeDiagonals(), factorial);
        }
    }

    @Says(at = "Promise 24", words = {"Returns a whole diagonal.", "Returns the diagonal as a number;"})
    void wholeDiagonalTellsTheDiagonal() {
        due("of one row", Desks.of("3").wholeDiagonal(0), 0);
        due("zeros ahead", Desks.of("1,0/0,1").wholeDiagonal(0), 1);
        for (int diagonal : new int[] {12, 21, 102, 120, 201, 210}) {
            due("the one of " + diagonal, Desks.ofDiagonal(3, diagonal).wholeDiagonal(0), diagonal);
        }
        for (int diagonal : new int[] {123456, 6543210, 1023456, 3456012, 5061423}) {
            due("the one of " + diagonal, Desks.ofDiagonal(7, diagonal).wholeDiagonal(0), diagonal);
        }
    }

    @Says(at = "Promise 24", words = "`rank`: 0 for the first one, and so on")
    void ranksBeginAt0() {
        PermanentDesk all = Desks.of(ONE_TO_NINE);
        int[] ordered = {12, 21, 102, 120, 201, 210};
        for (int rank = 0; rank < 6; rank++) {
            due("wholeDiagonal(" + rank + ")", all.wholeDiagonal(rank), ordered[rank]);
        }
        PermanentDesk some = Desks.of("0,1,-1/1,0,1/1,1,0");
        due("wholeDiagonal(0) of some", some.wholeDiagonal(0), 120);
        due("wholeDiagonal(1) of some", some.wholeDiagonal(1), 201);
        PermanentDesk seven = Desks.ofAll(7, 1);
        due("wholeDiagonal(0) of 7 rows", seven.wholeDiagonal(0), 123456);
        due("wholeDiagonal(720) of 7 rows", seven.wholeDiagonal(720), 1023456);
        due("wholeDiagonal(5039) of 7 rows", seven.wholeDiagonal(5039), 6543210);
    }

    @Says(at = "Promise 24", words = "OUT_OF_RANGE if rank is negative;")
    void aNegativeRankIsOutOfRange() {
        for (int rank : new int[] {-1, -2, -6, -7, -5040, MIN, MIN + 1}) {
            due("wholeDiagonal(" + rank + ")", Desks.of(ONE_TO_NINE).wholeDiagonal(rank), OUT_OF_RANGE);
            due("wholeDiagonal(" + rank + ") of zeros", new PermanentDesk().wholeDiagonal(rank), OUT_OF_RANGE);
        }
    }

    @Says(at = "Promise 24", words = "NONE if there are not so many.")
    void aRankThatIsTooGreatIsNone() {
        for (int rows = 1, factorial = 1; rows <= 7; rows++, factorial *= rows) {
            PermanentDesk desk = Desks.ofAll(rows, 1);
            holds("the last one of " + rows + " rows", desk.wholeDiagonal(factorial - 1) >= 0);
            due("one more", desk.wholeDiagonal(factorial), NONE);
            due("far more", desk.wholeDiagonal(MAX), NONE);
            due("wholeDiagonal(0) of zeros", Desks.ofAll(rows, 0).wholeDiagonal(0), NONE);
        }
        PermanentDesk two = Desks.of("0,1,-1/1,0,1/1,1,0");
        due("the third one of two", two.wholeDiagonal(2), NONE);
        due("a rank that comes back to 0 if it is cut", two.wholeDiagonal(1 << 16), NONE);
    }

    // ---- diagonalsThrough

    @Says(at = "Promise 25", words = {"Tells on how many whole diagonals an entry is.", "Returns how many;"})
    void diagonalsThroughCountsWholeDiagonals() {
        PermanentDesk desk = Desks.of("1,-1,0/1,1,1/0,1,1");
        int[] want = {2, 1, 0, 1, 1, 1, 0, 1, 2};
        for (int cell = 0; cell < 9; cell++) {
            due("diagonalsThrough, cell " + cell, desk.diagonalsThrough(cell / 3, cell % 3), want[cell]);
        }
        due("an entry that is on none", Desks.of("1,1/0,1").diagonalsThrough(0, 1), 0);
        due("a zero is on none", Desks.of("0,1/1,1").diagonalsThrough(0, 0), 0);
        due("one row", Desks.of("5").diagonalsThrough(0, 0), 1);
        due("one zero", Desks.of("0").diagonalsThrough(0, 0), 0);
        due("signs do not count", Desks.of("1,1,1/1,1,-1/1,1,1").diagonalsThrough(0, 0), 2);
        for (int cell = 0; cell < 49; cell++) {
            due("7 rows", Desks.of(Desks.textOfAll(7, 9)).diagonalsThrough(cell / 7, cell % 7), 720);
        }
    }

    @Says(at = "Promise 25", words = {"`row`: a row", "`column`: a column", "UNKNOWN."})
    void diagonalsThroughTakesRowsAndColumnsThatThereAre() {
        dueLines("diagonalsThrough, row", (desk, line, other) -> desk.diagonalsThrough(line, other), UNKNOWN);
        dueLines("diagonalsThrough, column", (desk, line, other) -> desk.diagonalsThrough(other, line), UNKNOWN);
        due("zeros", new PermanentDesk().diagonalsThrough(3, 0), UNKNOWN);
        due("zeros", new PermanentDesk().diagonalsThrough(0, -1), UNKNOWN);
    }

    // ---- rooks

    @Says(at = "Promise 26", words = {
        "Returns a rook number.",
        "Returns in how many ways k entries that are not 0 can be chosen so that no two are in the same row or"
            + " column;"})
    void rooksCountsWays() {
        PermanentDesk desk = Desks.of("5,-3,0/0,2,2/0,0,0");
        due("rooks(0)", desk.rooks(0), 1);
        due("rooks(1)", desk.rooks(1), 4);
        due("rooks(2)", desk.rooks(2), 3);
        due("rooks(3)", desk.rooks(3), 0);
        due("rooks(0) of zeros", new PermanentDesk().rooks(0), 1);
        due("rooks(1) of zeros", new PermanentDesk().rooks(1), 0);
        due("two of one row", Desks.of("1,1/0,0").rooks(2), 0);
        due("two of one column", Desks.of("1,0/1,0").rooks(2), 0);
        int[] sevens = {1, 49, 882, 7350, 29400, 52920, 35280, 5040};
        PermanentDesk seven = Desks.ofAll(7, -20);
        for (int k = 0; k <= 7; k++) {
            due("7 rows: rooks(" + k + ")", seven.rooks(k), sevens[k]);
        }
    }

    @Says(at = "Promise 26", words = {"`k`: 0 to the number of rows", "OUT_OF_RANGE."})
    void rooksTakes0ToTheNumberOfRows() {
        for (int rows = 1; rows <= 7; rows++) {
            PermanentDesk desk = Desks.ofAll(rows, 1);
            due("rooks(0)", desk.rooks(0), 1);
            due("rooks(" + rows + ")", desk.rooks(rows), desk.wholeDiagonals());
            for (int k : noCounts(rows)) {
                due("rooks(" + k + ") of " + rows + " rows", desk.rooks(k), OUT_OF_RANGE);
            }
        }
    }

    // ---- tooFew

    @Says(at = "Promise 27", words = {
        "Finds the smallest set of rows whose entries that are not 0 are in fewer columns than the set has"
            + " rows,",
        "Returns the set;"})
    void tooFewFindsTheSmallestSet() {
        due("a row of zeros", Desks.of("1,1,1/1,1,1/0,0,0").tooFew(), 4);
        due("two rows in one column", Desks.of("1,0,0/1,1,1/-1,0,0").tooFew(), 5);
        due("a smaller set ahead of a lesser number", Desks.of("1,1,0,0/1,1,0,0/-1,1,0,0/0,0,0,0").tooFew(), 8);
        due("two rows ahead of three", Desks.of("1,1,0,0/1,1,0,0/1,0,0,0/1,0,0,0").tooFew(), 12);
        due("three rows in two columns", Desks.of("1,1,0/1,1,0/1,1,0").tooFew(), 7);
        due("one row", Desks.of("0").tooFew(), 1);
        for (int rows = 1; rows <= 7; rows++) {
            PermanentDesk desk = Desks.ofAll(rows, 1);
            desk.transpose();
            desk.multiply(rows - 1, 0);
            due("zeros in the last row of " + rows, desk.tooFew(), 1 << rows - 1);
            desk.transpose();
            due("zeros in the last column of " + rows, desk.tooFew(), (1 << rows) - 1);
        }
    }

    @Says(at = "Promise 27", words = "of several as small the one that is the least as a number.")
    void tooFewFindsTheLeastOfSeveral() {
        due("zeros", new PermanentDesk().tooFew(), 1);
        due("zeros of 7 rows", Desks.ofAll(7, 0).tooFew(), 1);
        due("the first of two rows of zeros", Desks.of("1,1,1/0,0,0/0,0,0").tooFew(), 2);
        due("of two pairs the lesser", Desks.of("0,0,0,1/1,0,0,0/1,0,0,0/0,0,0,1").tooFew(), 6);
        due("of three pairs the least", Desks.of("1,0,0/1,0,0/1,0,0").tooFew(), 3);
        due("of two pairs that of a lesser last row", Desks.of("1,0,0,0/0,1,0,0/0,1,0,0/1,0,0,0").tooFew(), 6);
    }

    @Says(at = "Promise 27", words = "NONE if there is none.")
    void tooFewIsNoneIfThereIsAWholeDiagonal() {
        due("one row", Desks.of("-1").tooFew(), NONE);
        due("a triangle", Desks.of("1,0,0/1,1,0/1,1,1").tooFew(), NONE);
        for (int rows = 1; rows <= 7; rows++) {
            due("ones", Desks.ofAll(rows, 1).tooFew(), NONE);
            due("-20", Desks.ofAll(rows, -20).tooFew(), NONE);
        }
        for (int diagonal : new int[] {123456, 6543210, 3456012}) {
            due("one diagonal alone", Desks.ofDiagonal(7, diagonal).tooFew(), NONE);
        }
    }

    // ---- best

    private void dueBest(String matrix, int sum, int diagonal) {
        PermanentDesk desk = Desks.of(matrix);
        due("best(true) of " + matrix, desk.best(true), sum);
        due("best(false) of " + matrix, desk.best(false), diagonal);
    }

    @Says(at = "Promise 28", words = "Finds the diagonal with the greatest sum of entries,")
    void bestFindsTheGreatestSum() {
        dueBest("-7", -7, 0);
        dueBest("1,2/3,4", 5, 1);
        dueBest("1,5/5,4", 10, 10);
        dueBest("0,0,1/0,0,0/0,0,0", 1, 201);
        dueBest("-1,-1,5/0,0,5/4,4,20", 19, 12);
        dueBest("0,-1/0,0", 0, 1);
        due("the least sum", Desks.ofAll(7, -20).best(true), -140);
        due("the greatest sum", Desks.ofAll(7, 20).best(true), 140);
        PermanentDesk counted = Desks.of("1,2/3,4");
        due("wholeDiagonals()", counted.wholeDiagonals(), 2);
        due("best(true) behind wholeDiagonals()", counted.best(true), 5);
        for (int diagonal : new int[] {123456, 6543210, 3456012, 5061423}) {
            due("the one of ones", Desks.ofDiagonal(7, diagonal).best(false), diagonal);
            due("its sum", Desks.ofDiagonal(7, diagonal).best(true), 7);
        }
    }

    @Says(at = "Promise 28", words = "of several the one that is the least as a number.")
    void bestFindsTheLeastOfSeveral() {
        dueBest(ZEROS, 0, 12);
        dueBest("-20,-20/-20,-20", -40, 1);
        dueBest("1,2,3/4,5,6/7,8,9", 15, 12);
        dueBest("0,1,1/1,0,1/1,1,0", 3, 120);
        due("7 rows", Desks.ofAll(7, -20).best(false), 123456);
        due("7 rows", Desks.ofAll(7, 20).best(false), 123456);
    }

    @Says(at = "Promise 28", words = {
        "`isSum`: whether the sum is returned, otherwise the diagonal",
        "Returns the sum or the diagonal."})
    void bestTellsTheSumOrTheDiagonal() {
        for (int rows = 1; rows <= 7; rows++) {
            PermanentDesk desk = Desks.ofAll(rows, 2);
            due("the sum of " + rows + " rows", desk.best(true), 2 * rows);
            due("the diagonal of " + rows + " rows", desk.best(false), Integer.parseInt("0123456".substring(0, rows)));
        }
    }

    // ---- nodes

    @Says(at = "Promise 29", words = {"Tells how much work an expansion is.", "Returns how many nodes count."})
    void nodesCountsNodes() {
        due("zeros", new PermanentDesk().nodes(false), 1);
        due("one row", Desks.of("5").nodes(false), 2);
        due("a row of zeros at the end", Desks.of("1,1,0/1,1,0/0,0,0").nodes(false), 5);
        int plain = 1;
        for (int rows = 1; rows <= 7; rows++) {
            plain = 1 + rows * plain;
            due("ones of " + rows + " rows", Desks.ofAll(rows, 1).nodes(false), plain);
            due("-1 of " + rows + " rows", Desks.ofAll(rows, -1).nodes(false), plain);
        }
    }

    @Says(at = "Promise 29", words = "`withMemory`: whether it has a memory")
    void nodesCountOnceWithAMemory() {
        due("zeros", new PermanentDesk().nodes(true), 1);
        due("one row", Desks.of("5").nodes(true), 2);
        due("two ways to one node", Desks.of("1,1,0/1,1,0/0,0,0").nodes(true), 4);
        for (int rows = 1; rows <= 7; rows++) {
            due("ones of " + rows + " rows", Desks.ofAll(rows, 1).nodes(true), 1 << rows);
            due("-1 of " + rows + " rows", Desks.ofAll(rows, -1).nodes(true), 1 << rows);
        }
    }
}
