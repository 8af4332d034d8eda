/** The sentences of the promises 30 to 34: scaling and taking apart. */
final class ScalingPromises extends SentenceGroup {
    private static final int[] NO_SWEEPS = {-1, -2, -50, 51, 52, 100, 256, 256 + 50, 1 << 16, MIN, MIN + 50, MAX};
    private static final String[] NOT_SCALED = {ZEROS, "1,1,1/1,1,1/1,1,-1", "1,1,1/1,1,1/0,0,0", "1,1,0/1,1,0/1,1,0",
        "0,0,0/1,1,1/1,1,1", "0,1,1/0,1,1/0,1,1", "2,1,1/1,-1,1/1,1,1", "0", "-1"};

    ScalingPromises(Checks checks) {
        super(checks);
    }

    private void dueSweeps(String name, SweepCall call) {
        for (int sweeps = 0; sweeps <= 50; sweeps++) {
            holds(name + " with " + sweeps, call.on(Desks.of("1,2/3,4"), sweeps) >= 0);
        }
        for (int sweeps : NO_SWEEPS) {
            due(name + " with " + sweeps, call.on(Desks.of("1,2/3,4"), sweeps), LONG_OUT_OF_RANGE);
            due(name + " with " + sweeps + " of zeros", call.on(new PermanentDesk(), sweeps), LONG_OUT_OF_RANGE);
        }
    }

    private void dueNotScaled(String name, SweepCall call) {
        for (String matrix : NOT_SCALED) {
            for (int sweeps : new int[] {0, 1, 50}) {
                due(name + " of " + matrix, call.on(Desks.of(matrix), sweeps), LONG_NOT_POSSIBLE);
            }
        }
    }

    private interface SweepCall {
        long on(PermanentDesk desk, int sweeps);
    }

    // ---- scaledBits

    @Says(at = "Promise 30", words = {
        "Returns an entry behind some sweeps.",
        "Returns the bits of the entry (as Double.doubleToLongBits tells them);"})
    void scaledBitsTellsAnEntry() {
        PermanentDesk desk = Desks.of("1,2/3,4");
        dueOneSweepOfTwoRows(desk);
        dueBits("a zero", Desks.of("1,0/1,1").scaledBits(0, 1, 50), 0.0);
        dueBits("a one", Desks.of("20").scaledBits(0, 0, 1), 1.0);
        for (int entry = 1; entry <= 20; entry++) {
            dueBits("no sweep", Desks.of(Integer.toString(entry)).scaledBits(0, 0, 0), entry);
        }
        dueMatrix("scaledBits", desk, "1,2/3,4");
        due("nothing is recorded", desk.total(7), 1);
    }

    /** Without a whole diagonal some entries go towards 0 fast. */
    @Says(at = "Promise 30", words = "(as Double.doubleToLongBits tells them)")
    void scaledBitsTellsTheBitsOfTinyEntries() {
        for (int rows = 3; rows <= 7; rows++) {
            PermanentDesk cross = Desks.crossOf(rows);
            SlowDesk slow = Desks.slowOf(cross);
            for (int sweeps = 0; sweeps <= 50; sweeps++) {
                due("cross of " + rows, cross.scaledBits(0, 0, sweeps), slow.scaledBits(0, 0, sweeps));
                due("cross of " + rows, cross.scaledBits(0, 1, sweeps), slow.scaledBits(0, 1, sweeps));
                due("cross of " + rows, cross.scaledBits(1, 1, sweeps), 0L);
            }
        }
        double tiny = Double.longBitsToDouble(Desks.crossOf(7).scaledBits(0, 0, 50));
        holds("an entry gets tiny", tiny > 0.0 && tiny < 1e-70);
    }

    @Says(at = "Promise 30", words = {"`row`: a row", "`column`: a column", "LONG_UNKNOWN;"})
    void scaledBitsTakesRowsAndColumnsThatThereAre() {
        dueLines("scaledBits, row", (desk, line, other) -> desk.scaledBits(line, other, 0), LONG_UNKNOWN);
        dueLines("scaledBits, column", (desk, line, other) -> desk.scaledBits(other, line, 50), LONG_UNKNOWN);
        for (int line : noLines(3)) {
            due("zeros", new PermanentDesk().scaledBits(line, 0, 0), LONG_UNKNOWN);
            due("zeros", new PermanentDesk().scaledBits(0, line, 51), LONG_UNKNOWN);
        }
    }

    @Says(at = "Promise 30", words = {"`sweeps`: 0 to 50", "LONG_OUT_OF_RANGE;"})
    void scaledBitsTakes0To50Sweeps() {
        dueSweeps("scaledBits", (desk, sweeps) -> desk.scaledBits(1, 1, sweeps));
        SlowDesk slow = Desks.slowOf("1,2/3,4");
        due("50 sweeps", Desks.of("1,2/3,4").scaledBits(0, 0, 50), slow.scaledBits(0, 0, 50));
        PermanentDesk cross = Desks.crossOf(7);
        holds("the 50th sweep is made", cross.scaledBits(0, 0, 50) < cross.scaledBits(0, 0, 49));
    }

    @Says(at = "Promise 30", words = "LONG_NOT_POSSIBLE if scaling is not defined.")
    void scaledBitsIsNotPossible() {
        dueNotScaled("scaledBits", (desk, sweeps) -> desk.scaledBits(0, 0, sweeps));
    }

    // ---- gapBits

    @Says(at = "Promise 31", words = {
        "Returns how far row sums are from 1 behind some sweeps: the greatest of the differences of the row"
            + " sums (added up as told) and 1.0, without sign.",
        "Returns the bits of the difference;"})
    void gapBitsTellsTheGreatestDifference() {
        PermanentDesk desk = Desks.of("1,2/3,4");
        dueBits("no sweep", desk.gapBits(0), 6.0);
        double a = 1.0 / 3.0, b = 2.0 / 3.0, c = 3.0 / 7.0, d = 4.0 / 7.0;
        double first = Math.abs(a / (a + c) + b / (b + d) - 1.0), second = Math.abs(c / (a + c) + d / (b + d) - 1.0);
        dueBits("one sweep", desk.gapBits(1), Math.max(first, second));
        dueBits("no gap", Desks.of("0,1/1,0").gapBits(0), 0.0);
        double third = 1.0 / 3.0, half = 1.0 / 2.0;
        dueBits("above 1", Desks.of("1,1,1/1,1,0/1,0,1").gapBits(1),
            third / (third + half + half) + third / (third + half) + third / (third + half) - 1.0);
        dueBits("below 1", Desks.of("1,1,1/0,0,2/0,0,2").gapBits(1), 1.0 + 1.0 + third / (third + 1.0 + 1.0) - 1.0);
        for (int row = 0; row < 7; row++) {
            PermanentDesk seven = Desks.ofDiagonal(7, 123456);
            seven.set(row, row, 9);
            dueBits("the row " + row + " is far off", seven.gapBits(0), 8.0);
            dueBits("no row is behind a sweep", seven.gapBits(1), 0.0);
        }
        dueBits("a row sum below 1 is the farthest", gapOfRowsBelow1(), gapBelow1());
    }

    /** Three rows share one column, so that each of them is far below 1, and the first row is less far above it. */
    private static long gapOfRowsBelow1() {
        return Desks.of("1,1,1,0/0,0,1,1/0,0,0,1/0,0,0,1").gapBits(1);
    }

    private static double gapBelow1() {
        double third = 1.0 / 3.0, half = 1.0 / 2.0;
        double first = 1.0 + 1.0 + third / (third + half) + 0.0;
        double last = 0.0 + 0.0 + 0.0 + 1.0 / (0.0 + half + 1.0 + 1.0);
        return Math.max(Math.abs(first - 1.0), Math.abs(last - 1.0));
    }

    @Says(at = "Promise 31", words = {"`sweeps`: 0 to 50", "LONG_OUT_OF_RANGE;"})
    void gapBitsTakes0To50Sweeps() {
        dueSweeps("gapBits", (desk, sweeps) -> desk.gapBits(sweeps));
        PermanentDesk slowly = Desks.of("1,1,0/0,1,1/0,0,1");
        SlowDesk slow = Desks.slowOf("1,1,0/0,1,1/0,0,1");
        for (int sweeps = 0; sweeps <= 50; sweeps++) {
            due("gapBits", slowly.gapBits(sweeps), slow.gapBits(sweeps));
        }
        holds("the 50th sweep is made", slowly.gapBits(50) < slowly.gapBits(49));
    }

    @Says(at = "Promise 31", words = "LONG_NOT_POSSIBLE if scaling is not defined.")
    void gapBitsIsNotPossible() {
        dueNotScaled("gapBits", (desk, sweeps) -> desk.gapBits(sweeps));
    }

    // ---- boundBits

    @Says(at = "Promise 32", words = {"Returns the bound behind some sweeps.", "Returns the bits of the bound;"})
    void boundBitsTellsTheBound() {
        dueBits("one row", Desks.of("20").boundBits(0), 1.0);
        dueBits("one row", Desks.of("20").boundBits(1), 20.0);
        dueBits("one row", Desks.of("20").boundBits(50), 20.0);
        double columns = 1.0 / 3.0 + 3.0 / 7.0, others = 2.0 / 3.0 + 4.0 / 7.0;
        dueBits("two rows", Desks.of("1,2/3,4").boundBits(1), 0.5 * 3.0 * 7.0 * columns * others);
        PermanentDesk great = Desks.ofAll(7, 20);
        SlowDesk slow = Desks.slowOf(great);
        for (int sweeps = 0; sweeps <= 50; sweeps += 10) {
            due("a great bound", great.boundBits(sweeps), slow.boundBits(sweeps));
        }
        double bound = Double.longBitsToDouble(great.boundBits(1));
        holds("a great bound is near the permanent", bound > 6.45e12 && bound < 6.46e12);
    }

    /** Their bounds go by the least normal doubles, the greatest and the least ones below them, and 0. */
    private static final String[] TINY_BOUNDS = {
        "1,1,1,1,1,1,1" + below("111111"), "8,8,3,5,1,5,6" + below("512114"), "8,6,7,5,1,1,9" + below("411234"),
        "2,1,8,2,4,7,1" + below("143131"), "9,1,3,7,7,6,1" + below("158311"), "2,9,4,2,6,9,9" + below("123213")};

    /** The six rows below the first one, that have an entry in the first column alone. */
    private static String below(String entries) {
        return entries.replaceAll("(.)", "/$1,0,0,0,0,0,0");
    }

    @Says(at = "Promise 32", words = "Returns the bits of the bound;")
    void boundBitsTellsTheBitsOfTinyBounds() {
        long least = 1L << 52;
        boolean isNormal = false, isJustBelow = false, isFarBelow = false, isLeast = false, isZero = false;
        for (String matrix : TINY_BOUNDS) {
            PermanentDesk desk = Desks.of(matrix);
            SlowDesk slow = Desks.slowOf(matrix);
            for (int sweeps = 0; sweeps <= 50; sweeps++) {
                long bits = desk.boundBits(sweeps);
                due("boundBits(" + sweeps + ") of " + matrix, bits, slow.boundBits(sweeps));
                isNormal |= bits >= least && bits < 2 * least;
                isJustBelow |= bits >= least / 2 && bits < least;
                isFarBelow |= bits > 1 && bits < least / 2;
                isLeast |= bits == 1;
                isZero |= bits == 0;
            }
        }
        holds("a bound of the least exponent has been seen", isNormal);
        holds("a bound just below the normal doubles has been seen", isJustBelow);
        holds("a bound far below the normal doubles has been seen", isFarBelow);
        holds("the least bound above 0 has been seen", isLeast);
        holds("a bound of 0 has been seen", isZero);
    }

    @Says(at = "Promise 32", words = {"`sweeps`: 0 to 50", "LONG_OUT_OF_RANGE;"})
    void boundBitsTakes0To50Sweeps() {
        dueSweeps("boundBits", (desk, sweeps) -> desk.boundBits(sweeps));
        PermanentDesk slowly = Desks.of("1,1,0/0,1,1/0,0,1");
        SlowDesk slow = Desks.slowOf("1,1,0/0,1,1/0,0,1");
        for (int sweeps = 0; sweeps <= 50; sweeps++) {
            due("boundBits", slowly.boundBits(sweeps), slow.boundBits(sweeps));
        }
        holds("the 50th sweep is made", slowly.boundBits(50) != slowly.boundBits(49));
    }

    @Says(at = "Promise 32", words = "LONG_NOT_POSSIBLE if scaling is not defined.")
    void boundBitsIsNotPossible() {
        dueNotScaled("boundBits", (desk, sweeps) -> desk.boundBits(sweeps));
    }

    // ---- part and parts

    private static final String[] WHOLE = {"0", "-5", "0,0/0,0", "1,2/3,4", "1,1/2,2", "1,2/1,2", "-1,2/2,-1",
        "2,-1/-1,2", "-1,0/0,-1", "-1,1/1,-1", "1,0/0,2", ZEROS};

    private static PermanentDesk apart() {
        return Desks.of("2,1,1/1,1,2/1,2,1");
    }

    @Says(at = "Promise 33", words = {
        "Returns a part.",
        "Returns the weight or the diagonal;",
        "`isWeight`: whether its weight is returned, otherwise the diagonal"})
    void partTellsTheWeightOrTheDiagonal() {
        PermanentDesk desk = Desks.of("3,0,2/2,3,0/0,2,3");
        due("a part ahead of all else", desk.part(0, true), 3);
        due("part(0, false)", desk.part(0, false), 12);
        due("part(1, true)", desk.part(1, true), 2);
        due("part(1, false)", desk.part(1, false), 201);
        dueMatrix("part", desk, "3,0,2/2,3,0/0,2,3");
        due("nothing is recorded", desk.total(7), 1);
        desk.swapRows(0, 1);
        due("a part behind a change", desk.part(0, false), 21);
        due("one row", Desks.of("20").part(0, true), 20);
        due("one row", Desks.of("20").part(0, false), 0);
        PermanentDesk seven = Desks.ofAll(7, 20);
        for (int part = 0; part < 7; part++) {
            due("the weight of 7 rows", seven.part(part, true), 20);
        }
        due("the first diagonal of 7 rows", seven.part(0, false), 123456);
    }

    @Says(at = "Promise 33", words = "`part`: 0 for the first one, and so on")
    void partsBeginAt0() {
        int[] diagonals = {12, 21, 120, 201};
        for (int part = 0; part < 4; part++) {
            due("part(" + part + ", false)", apart().part(part, false), diagonals[part]);
            due("part(" + part + ", true)", apart().part(part, true), 1);
        }
        PermanentDesk back = apart();
        due("the last part first", back.part(3, false), 201);
        due("the first part then", back.part(0, false), 12);
    }

    @Says(at = "Promise 33", words = "NOT_POSSIBLE if the matrix cannot be taken apart;")
    void partIsNotPossible() {
        for (String matrix : WHOLE) {
            for (int part : new int[] {-1, 0, 1, 49, MIN, MAX}) {
                dueRefused("part(" + part + ", true)", matrix, desk -> desk.part(part, true), NOT_POSSIBLE);
                dueRefused("part(" + part + ", false)", matrix, desk -> desk.part(part, false), NOT_POSSIBLE);
            }
        }
        PermanentDesk spoiled = apart();
        due("part(0, true)", spoiled.part(0, true), 1);
        spoiled.set(2, 2, 2);
        due("part(0, true) behind a change", spoiled.part(0, true), NOT_POSSIBLE);
    }

    @Says(at = "Promise 33", words = "UNKNOWN if there are not so many parts.")
    void partTakesPartsThatThereAre() {
        for (int part : new int[] {-1, -4, 4, 5, 32, 48, 49, 50, 256, 1 << 16, MIN, MIN + 1, MAX}) {
            due("part(" + part + ", true)", apart().part(part, true), UNKNOWN);
            due("part(" + part + ", false)", apart().part(part, false), UNKNOWN);
        }
        due("the second part of one", Desks.of("7").part(1, true), UNKNOWN);
        PermanentDesk fewer = apart();
        due("part(3, false)", fewer.part(3, false), 201);
        fewer.clear(3);
        fewer.add(12);
        due("part(0, false) of fewer", fewer.part(0, false), 12);
        for (int part = 1; part <= 4; part++) {
            due("a part that there was", fewer.part(part, false), UNKNOWN);
            due("a part that there was", fewer.part(part, true), UNKNOWN);
        }
    }

    @Says(at = "Promise 34", words = {"Returns how many parts there are.", "Returns how many;"})
    void partsCountsParts() {
        due("one row", Desks.of("7").parts(), 1);
        due("two parts", Desks.of("1,2/2,1").parts(), 2);
        due("four parts", apart().parts(), 4);
        for (int rows = 1; rows <= 7; rows++) {
            PermanentDesk ones = Desks.ofAll(rows, 1);
            due("ones of " + rows + " rows", ones.parts(), Desks.slowOf(ones).parts());
            due("one diagonal of " + rows + " rows",
                Desks.ofDiagonal(rows, Integer.parseInt("0123456".substring(0, rows))).parts(), 1);
        }
        PermanentDesk more = apart();
        more.add(102);
        due("parts() behind a change", more.parts(), Desks.slowOf(more).parts());
        dueMatrix("parts()", more, "2,2,1/2,1,2/1,2,2");
    }

    @Says(at = "Promise 34", words = "NOT_POSSIBLE if the matrix cannot be taken apart.")
    void partsIsNotPossible() {
        for (String matrix : WHOLE) {
            dueRefused("parts()", matrix, desk -> desk.parts(), NOT_POSSIBLE);
        }
        PermanentDesk spoiled = apart();
        due("parts()", spoiled.parts(), 4);
        spoiled.set(0, 0, 1);
        due("parts() behind a change", spoiled.parts(), NOT_POSSIBLE);
        spoiled.undo();
        due("parts() behind undo()", spoiled.parts(), 4);
    }
}
