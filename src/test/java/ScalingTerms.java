/** The sentences of SCALING and of TAKING APART. */
final class ScalingTerms extends SentenceGroup {
    /** Their line sums are such that another order of the sums, products or divisions gives other last bits. */
    private static final String[] SCALED = {"1,2/3,4", "1,20,20/0,20,20/0,20,20", "1,1,1/1,1,0/1,0,1",
        "20,0,0/20,20,0/1,20,20", "1,1/0,1", "3,1,4,1/5,9,2,6/5,3,5,8/9,7,9,3", "7,3,11/13,5,2/6,17,19",
        "20,20,20,20,20/1,0,0,0,0/1,0,0,0,0/1,0,0,0,0/20,0,0,0,0", "1,0,2,0,3/0,5,0,7,0/2,0,3,0,5/0,7,0,9,0/1,2,3,4,5",
        "1,2,3,4,5,6,7/2,3,4,5,6,7,8/9,1,8,2,7,3,6/1,1,2,3,5,8,1/3,1,4,1,5,9,2/2,7,1,8,2,8,1/1,4,1,4,2,1,3"};

    ScalingTerms(Checks checks) {
        super(checks);
    }

    private void dueNotScaled(String what, PermanentDesk desk) {
        for (int sweeps = 0; sweeps <= 50; sweeps += 25) {
            due("scaledBits: " + what, desk.scaledBits(0, 0, sweeps), LONG_NOT_POSSIBLE);
            due("gapBits: " + what, desk.gapBits(sweeps), LONG_NOT_POSSIBLE);
            due("boundBits: " + what, desk.boundBits(sweeps), LONG_NOT_POSSIBLE);
        }
    }

    private void dueScaled(String what, PermanentDesk desk) {
        for (int sweeps = 0; sweeps <= 50; sweeps += 25) {
            holds("scaledBits is defined: " + what, desk.scaledBits(0, 0, sweeps) >= 0);
            holds("gapBits is defined: " + what, desk.gapBits(sweeps) >= 0);
            holds("boundBits is defined: " + what, desk.boundBits(sweeps) >= 0);
        }
    }

    @Says(at = "SCALING", words = "Scaling is defined if no entry is negative,")
    void anEntryBelow0AnywhereForbidsScaling() {
        for (int rows = 1; rows <= 7; rows += 2) {
            for (int cell = 0; cell < rows * rows; cell++) {
                PermanentDesk desk = Desks.of(Desks.textOfAll(rows, 2));
                dueScaled("no entry below 0", desk);
                desk.set(cell / rows, cell % rows, -1);
                dueNotScaled("-1 at " + cell, desk);
            }
        }
    }

    @Says(at = "SCALING", words = "and each row and each column has an entry that is greater than 0.")
    void eachLineNeedsAnEntryAbove0() {
        for (int rows = 1; rows <= 7; rows++) {
            for (int line = 0; line < rows; line++) {
                PermanentDesk desk = Desks.ofAll(rows, 1);
                desk.multiply(line, 0);
                dueNotScaled("zeros in the row " + line, desk);
                if (rows > 1) {
                    desk.transpose();
                    dueNotScaled("zeros in the column " + line, desk);
                }
                desk.set(0, line, 1);
                desk.set(line, line, 1);
                dueScaled("a one in each line", desk);
            }
        }
        dueScaled("one entry in each line", Desks.of("0,0,1/1,0,0/0,1,0"));
        dueScaled("no whole diagonal", Desks.of("1,1,1/1,0,0/1,0,0"));
    }

    @Says(at = "SCALING",
        words = "It begins with the entries as doubles, and n factors of rows and n factors of columns, all 1.0.")
    void withoutASweepTheEntriesAreAsTheyWere() {
        for (int entry = 1; entry <= 20; entry++) {
            PermanentDesk desk = Desks.of(Desks.textOfAll(2, entry));
            for (int cell = 0; cell < 4; cell++) {
                dueBits("an entry of " + entry, desk.scaledBits(cell / 2, cell % 2, 0), entry);
            }
            dueBits("the factors of " + entry, desk.boundBits(0), 1.0 * 1.0 / 2.0 * 2.0 / 2.0);
        }
        dueBits("a zero", Desks.of("0,1/1,0").scaledBits(0, 0, 0), 0.0);
        PermanentDesk again = Desks.of("1,2/3,4");
        again.boundBits(50);
        dueBits("the factors begin anew", again.boundBits(0), 0.5);
        dueBits("the entries begin anew", again.scaledBits(1, 1, 0), 4.0);
    }

    @Says(at = "SCALING",
        words = "A sweep does this: for each row, from 0 on: its sum is added up from 0.0 by its columns, from 0"
            + " on; each entry of it is divided by the sum, by its columns; the factor of the row is multiplied"
            + " by the sum.")
    void aSweepDividesRowsByTheirSums() {
        PermanentDesk desk = Desks.of("1,1/0,4");
        double first = 1.0 / 2.0;
        dueBits("(0, 0) behind one sweep", desk.scaledBits(0, 0, 1), first / first);
        dueBits("(0, 1) behind one sweep", desk.scaledBits(0, 1, 1), first / (first + 1.0));
        dueBits("(1, 1) behind one sweep", desk.scaledBits(1, 1, 1), 1.0 / (first + 1.0));
        dueBits("the factors behind one sweep", desk.boundBits(1), 0.5 * 2.0 * 4.0 * first * (first + 1.0));
        dueBits("a row of one entry", Desks.of("20").scaledBits(0, 0, 1), 1.0);
        for (String matrix : SCALED) {
            dueAsByDefinition(matrix, new int[] {1, 2, 3, 49, 50});
        }
    }

    private void dueAsByDefinition(String matrix, int[] numbersOfSweeps) {
        PermanentDesk desk = Desks.of(matrix);
        SlowDesk slow = Desks.slowOf(matrix);
        int rows = desk.total(0);
        for (int sweeps : numbersOfSweeps) {
            for (int cell = 0; cell < rows * rows; cell++) {
                due("scaledBits of " + matrix + " behind " + sweeps, desk.scaledBits(cell / rows, cell % rows, sweeps),
                    slow.scaledBits(cell / rows, cell % rows, sweeps));
            }
            due("gapBits of " + matrix + " behind " + sweeps, desk.gapBits(sweeps), slow.gapBits(sweeps));
            due("boundBits of " + matrix + " behind " + sweeps, desk.boundBits(sweeps), slow.boundBits(sweeps));
        }
    }

    @Says(at = "SCALING", words = "Then the same with columns (their sums are added up by rows).")
    void thenColumnsAreDividedByTheirSums() {
        dueOneSweepOfTwoRows(Desks.of("1,2/3,4"));
        double e = 1.0 / 3.0;
        PermanentDesk three = Desks.of("1,1,1/0,1,0/0,0,7");
        dueBits("a sum of three rows", three.scaledBits(0, 2, 1), e / (e + 0.0 + 1.0));
        for (String matrix : SCALED) {
            dueAsByDefinition(matrix, new int[] {4, 5, 20});
        }
    }

    @Says(at = "SCALING",
        words = "The bound is: b is 1.0 at first; for k from 1 to n b is multiplied by (double) k and divided by"
            + " (double) n; then b is multiplied by the factors of the rows, from 0 on, and then by those of the"
            + " columns, from 0 on.")
    void theBoundIsMadeInThisOrder() {
        for (int rows = 1; rows <= 7; rows++) {
            double bound = 1.0;
            for (int k = 1; k <= rows; k++) {
                bound = bound * k / rows;
            }
            dueBits("the bound of " + rows + " rows", Desks.ofAll(rows, 2).boundBits(0), bound);
        }
        double columns = 1.0 / 3.0 + 3.0 / 7.0, others = 2.0 / 3.0 + 4.0 / 7.0;
        dueBits("one sweep", Desks.of("1,2/3,4").boundBits(1), 0.5 * 3.0 * 7.0 * columns * others);
        for (String matrix : SCALED) {
            SlowDesk slow = Desks.slowOf(matrix);
            for (int sweeps = 0; sweeps <= 50; sweeps++) {
                due("boundBits of " + matrix, Desks.of(matrix).boundBits(sweeps), slow.boundBits(sweeps));
            }
        }
    }

    private void dueWhole(String matrix) {
        dueRefused("parts()", matrix, desk -> desk.parts(), NOT_POSSIBLE);
        dueRefused("part(0, true)", matrix, desk -> desk.part(0, true), NOT_POSSIBLE);
        dueRefused("part(0, false)", matrix, desk -> desk.part(0, false), NOT_POSSIBLE);
    }

    @Says(at = "TAKING APART", words = "A matrix can be taken apart if no entry is negative,")
    void anEntryBelow0ForbidsTakingApart() {
        dueWhole("-1,2/2,-1");
        dueWhole("2,-1/-1,2");
        dueWhole("-5");
        for (int cell = 0; cell < 16; cell++) {
            PermanentDesk desk = Desks.of(Desks.textOfAll(4, 5));
            int row = cell / 4, column = cell % 4, otherRow = (row + 1) % 4, otherColumn = (column + 1) % 4;
            desk.set(row, column, -1);
            desk.set(row, otherColumn, 11);
            desk.set(otherRow, column, 11);
            desk.set(otherRow, otherColumn, -1);
            due("the sums are the same", desk.total(6), 1);
            due("-1 at " + cell, desk.parts(), NOT_POSSIBLE);
        }
    }

    @Says(at = "TAKING APART", words = "and all rows and all columns have the same sum,")
    void allLinesNeedTheSameSum() {
        dueWhole("1,1/2,2");
        dueWhole("1,2/1,2");
        dueWhole("1,2/3,4");
        dueWhole("1,0/0,2");
        dueWhole("1,0/1,0");
        for (int line = 0; line < 5; line++) {
            PermanentDesk desk = Desks.of(Desks.textOfAll(5, 3));
            due("like sums", desk.parts(), 5);
            desk.set(line, 4 - line, 4);
            due("one line more in the row " + line, desk.parts(), NOT_POSSIBLE);
            desk.set(line, line, line == 2 ? 4 : 2);
            due("like rows alone", desk.parts(), NOT_POSSIBLE);
            desk.transpose();
            due("like columns alone", desk.parts(), NOT_POSSIBLE);
        }
    }

    @Says(at = "TAKING APART", words = "which is at least 1.")
    void theSumIsAtLeast1() {
        for (int rows = 1; rows <= 7; rows++) {
            dueWhole(Desks.textOfAll(rows, 0));
        }
        due("the sum 1", Desks.of("1").parts(), 1);
        due("the sum 1 of three rows", Desks.ofDiagonal(3, 201).parts(), 1);
        dueWhole("-1");
        dueWhole("1,-1/-1,1");
    }

    private void dueParts(String matrix, int... diagonalsAndWeights) {
        PermanentDesk desk = Desks.of(matrix);
        int count = diagonalsAndWeights.length / 2;
        due("parts() of " + matrix, desk.parts(), count);
        for (int i = 0; i < count; i++) {
            due("part(" + i + ", false) of " + matrix, desk.part(i, false), diagonalsAndWeights[2 * i]);
            due("part(" + i + ", true) of " + matrix, desk.part(i, true), diagonalsAndWeights[2 * i + 1]);
        }
        due("part(" + count + ", true) of " + matrix, desk.part(count, true), UNKNOWN);
    }

    @Says(at = "TAKING APART", words = "Taking apart goes on as long as an entry is not 0:")
    void takingApartGoesOnUntilAllIsTaken() {
        dueParts("1", 0, 1);
        dueParts("20", 0, 20);
        dueParts("2,1,1/1,1,2/1,2,1", 12, 1, 21, 1, 120, 1, 201, 1);
        dueParts("1,0,0/0,0,1/0,1,0", 21, 1);
        PermanentDesk seven = Desks.ofAll(7, 20);
        int sum = 0;
        for (int part = 0; part < seven.parts(); part++) {
            sum += seven.part(part, true);
        }
        due("the weights of 7 rows of 20", sum, 140);
    }

    @Says(at = "TAKING APART",
        words = "the first whole diagonal (by its number) of what is left is a part, its weight is its least"
            + " entry, and the weight is subtracted from each of its entries.")
    void thePartIsTheFirstWholeDiagonalOfWhatIsLeft() {
        dueParts("1,2/2,1", 1, 1, 10, 2);
        dueParts("0,3/3,0", 10, 3);
        dueParts("3,0,2/2,3,0/0,2,3", 12, 3, 201, 2);
        dueParts("1,1,1/1,1,1/1,1,1", 12, 1, 120, 1, 201, 1);
        dueParts("5,1,0/0,2,4/1,3,2", 12, 2, 21, 3, 120, 1);
        dueParts("0,1,2/2,0,1/1,2,0", 120, 1, 201, 2);
        for (int row = 0; row < 7; row++) {
            PermanentDesk desk = Desks.of(Desks.textOfAll(7, 2));
            int below = (row + 1) % 7, column = (row + 2) % 7;
            desk.set(row, row, 1);
            desk.set(row, column, 3);
            desk.set(below, row, 3);
            desk.set(below, column, 1);
            due("the first part", desk.part(0, false), 123456);
            due("the least entry is in the row " + row, desk.part(0, true), 1);
        }
    }

    @Says(at = "TAKING APART", words = "(There is always such a diagonal.)")
    void thePartsMakeTheMatrix() {
        int[] added = {123456, 6543210, 1234560, 123456, 3216540, 6012345, 123465, 2103456, 5634120, 4321056};
        PermanentDesk desk = new PermanentDesk();
        desk.clear(7);
        PermanentDesk sum = new PermanentDesk();
        sum.clear(7);
        for (int diagonal : added) {
            desk.add(diagonal);
        }
        int weights = 0;
        for (int part = 0; part < desk.parts(); part++) {
            for (int weight = 0; weight < desk.part(part, true); weight++) {
                sum.add(desk.part(part, false));
                weights++;
            }
        }
        due("the weights", weights, added.length);
        dueMatrix("the sum of the parts", sum, Desks.matrix(desk));
    }
}
