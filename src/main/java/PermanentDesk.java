/**
 * Permanents of small square matrices, and what lies near them: determinants, whole diagonals, rook numbers,
 * expansions, scaling, taking apart, matrices from a text, undo and a snapshot.
 *
 * All arrays are made in constructors and used again, so that no call makes an object.
 */
public final class PermanentDesk {
    public static final int UNKNOWN = -2000000001;
    public static final int OUT_OF_RANGE = -2000000002;
    public static final int FULL = -2000000003;
    public static final int NOT_POSSIBLE = -2000000004;
    public static final int NONE = -2000000005;
    public static final long LONG_UNKNOWN = -9000000000000000001L, LONG_OUT_OF_RANGE = -9000000000000000002L, LONG_NOT_POSSIBLE = -9000000000000000004L;

    private static final int MOST_ROWS = 7;
    private static final int MOST_CELLS = 49;
    private static final int MOST_SETS = 128;
    private static final int FIRST_ROWS = 3;
    private static final int GREATEST_ENTRY = 20;
    private static final int GREATEST_FACTOR = 9;
    private static final int MOST_CHARACTERS = 100;
    private static final int MOST_STATES = 4;
    private static final int MOST_SWEEPS = 50;
    private static final int FAULT_BASE = -100;
    private static final int NO_FAULT = -1;
    private static final int NO_CHARACTER = -1;
    private static final int BELOW_ALL_SUMS = -1000;

    private final Matrix matrix;
    private final Matrix next;
    private final Matrix marks;
    private final Matrix kept;
    private boolean hasKept;
    private final History history;
    private final Text text;
    private final TextReader reader;
    private final ColumnSums sums;
    private final Endings endings;
    private final Scaling scaling;
    private final TakingApart takingApart;

    public PermanentDesk() {
        matrix = new Matrix();
        next = new Matrix();
        marks = new Matrix();
        kept = new Matrix();
        hasKept = false;
        history = new History();
        text = new Text();
        reader = new TextReader();
        sums = new ColumnSums();
        endings = new Endings();
        scaling = new Scaling();
        takingApart = new TakingApart();
    }

    // ---- changes

    public int clear(int rows) {
        if (rows < 1 || rows > MOST_ROWS) {
            return OUT_OF_RANGE;
        }
        int before = matrix.size();
        next.fillWithZeros(rows);
        changeToNext();
        return before;
    }

    public int set(int row, int column, int entry) {
        if (!matrix.has(row) || !matrix.has(column)) {
            return UNKNOWN;
        }
        if (!isEntry(entry)) {
            return OUT_OF_RANGE;
        }
        int before = matrix.at(row, column);
        if (before == entry) {
            return NONE;
        }
        next.copyFrom(matrix);
        next.put(row, column, entry);
        changeToNext();
        return before;
    }

    public int swapRows(int one, int other) {
        if (!matrix.has(one) || !matrix.has(other)) {
            return UNKNOWN;
        }
        next.copyFrom(matrix);
        for (int column = 0; column < matrix.size(); column++) {
            next.put(one, column, matrix.at(other, column));
            next.put(other, column, matrix.at(one, column));
        }
        return changeIfUnlike();
    }

    public int swapColumns(int one, int other) {
        if (!matrix.has(one) || !matrix.has(other)) {
            return UNKNOWN;
        }
        next.copyFrom(matrix);
        for (int row = 0; row < matrix.size(); row++) {
            next.put(row, one, matrix.at(row, other));
            next.put(row, other, matrix.at(row, one));
        }
        return changeIfUnlike();
    }

    public int transpose() {
        next.copyFrom(matrix);
        for (int row = 0; row < matrix.size(); row++) {
            for (int column = 0; column < matrix.size(); column++) {
                next.put(row, column, matrix.at(column, row));
            }
        }
        return changeIfUnlike();
    }

    public int multiply(int row, int factor) {
        if (!matrix.has(row)) {
            return UNKNOWN;
        }
        if (factor < -GREATEST_FACTOR || factor > GREATEST_FACTOR) {
            return OUT_OF_RANGE;
        }
        next.copyFrom(matrix);
        for (int column = 0; column < matrix.size(); column++) {
            int product = matrix.at(row, column) * factor;
            if (!isEntry(product)) {
                return NOT_POSSIBLE;
            }
            next.put(row, column, product);
        }
        return changeIfUnlike();
    }

    public int add(int diagonal) {
        if (!matrix.hasDiagonal(diagonal)) {
            return UNKNOWN;
        }
        if (matrix.greatestOn(diagonal) >= GREATEST_ENTRY) {
            return NOT_POSSIBLE;
        }
        next.copyFrom(matrix);
        next.increaseOn(diagonal, 1);
        changeToNext();
        return matrix.sumOn(diagonal);
    }

    // ---- texts

    public int type(char character) {
        if (text.isFull()) {
            return FULL;
        }
        text.append(character);
        return text.length();
    }

    public int clearText() {
        int before = text.length();
        text.empty();
        return before;
    }

    public int read() {
        int fault = reader.readInto(next, text);
        if (fault != NO_FAULT) {
            return FAULT_BASE - fault;
        }
        changeToNext();
        return matrix.size();
    }

    // ---- history

    public int undo() {
        if (history.count() == 0) {
            return NONE;
        }
        history.takeLatest(matrix);
        return history.count();
    }

    public int keep() {
        kept.copyFrom(matrix);
        hasKept = true;
        return matrix.size();
    }

    public int restore() {
        if (!hasKept) {
            return NONE;
        }
        next.copyFrom(kept);
        changeToNext();
        return matrix.size();
    }

    // ---- what there is

    public int entry(int row, int column) {
        if (!matrix.has(row) || !matrix.has(column)) {
            return UNKNOWN;
        }
        return matrix.at(row, column);
    }

    public int total(int what) {
        switch (what) {
            case 0:
                return matrix.size();
            case 1:
                return matrix.countNotZero();
            case 2:
                return matrix.sumOfAll();
            case 3:
                return matrix.greatest();
            case 4:
                return matrix.least();
            case 5:
                return matrix.isSymmetric() ? 1 : 0;
            case 6:
                return matrix.hasLikeSums() ? 1 : 0;
            case 7:
                return history.count();
            case 8:
                return text.length();
            default:
                return OUT_OF_RANGE;
        }
    }

    public int lineSum(int line, boolean isColumn) {
        if (!matrix.has(line)) {
            return UNKNOWN;
        }
        return isColumn ? matrix.sumOfColumn(line) : matrix.sumOfRow(line);
    }

    // ---- permanents

    public long permanent() {
        return expand(matrix, matrix.allLines(), matrix.allLines());
    }

    public long determinant() {
        sums.begin();
        for (int row = 0; row < matrix.size(); row++) {
            sums.takeRow(matrix, row, true);
        }
        return sums.of(matrix.allLines());
    }

    public long minor(int row, int column) {
        if (!matrix.has(row) || !matrix.has(column)) {
            return LONG_UNKNOWN;
        }
        return expandWithout(matrix, row, column);
    }

    public long permanentOf(int rows, int columns) {
        int unknown = ~matrix.allLines();
        if ((rows & unknown) != 0 || (columns & unknown) != 0) {
            return LONG_UNKNOWN;
        }
        if (Integer.bitCount(rows) != Integer.bitCount(columns)) {
            return LONG_NOT_POSSIBLE;
        }
        return expand(matrix, rows, columns);
    }

    public long sumOf(int k) {
        if (k < 0 || k > matrix.size()) {
            return LONG_OUT_OF_RANGE;
        }
        return sumOfExpansions(matrix, k);
    }

    // ---- diagonals

    public int wholeDiagonals() {
        endings.countWhole(matrix);
        return endings.of(0);
    }

    public int wholeDiagonal(int rank) {
        if (rank < 0) {
            return OUT_OF_RANGE;
        }
        endings.countWhole(matrix);
        if (rank >= endings.of(0)) {
            return NONE;
        }
        return endings.diagonalOfRank(matrix, rank);
    }

    public int diagonalsThrough(int row, int column) {
        if (!matrix.has(row) || !matrix.has(column)) {
            return UNKNOWN;
        }
        if (matrix.at(row, column) == 0) {
            return 0;
        }
        marks.markNotZero(matrix);
        return (int) expandWithout(marks, row, column);
    }

    public int rooks(int k) {
        if (k < 0 || k > matrix.size()) {
            return OUT_OF_RANGE;
        }
        marks.markNotZero(matrix);
        return (int) sumOfExpansions(marks, k);
    }

    public int tooFew() {
        int found = NONE;
        int members = MOST_ROWS + 1;
        // Sets come by their numbers, so that of several as small the first one found is the least.
        for (int rows = 1; rows <= matrix.allLines(); rows++) {
            int size = Integer.bitCount(rows);
            if (size < members && Integer.bitCount(matrix.columnsOf(rows)) < size) {
                found = rows;
                members = size;
            }
        }
        return found;
    }

    public int best(boolean isSum) {
        endings.findGreatestSums(matrix);
        return isSum ? endings.of(0) : endings.diagonalOfGreatestSum(matrix);
    }

    // ---- expansions

    public int nodes(boolean withMemory) {
        marks.markNotZero(matrix);
        sums.begin();
        long count = 1L;
        for (int row = 0; row < marks.size(); row++) {
            sums.takeRow(marks, row, false);
            count += withMemory ? sums.countNotZero() : sums.sumOfAll();
        }
        return (int) count;
    }

    // ---- scaling

    public long scaledBits(int row, int column, int sweeps) {
        if (!matrix.has(row) || !matrix.has(column)) {
            return LONG_UNKNOWN;
        }
        long error = scaleOrError(sweeps);
        return error != 0L ? error : DoubleBits.of(scaling.at(row, column));
    }

    public long gapBits(int sweeps) {
        long error = scaleOrError(sweeps);
        return error != 0L ? error : DoubleBits.of(scaling.greatestGap());
    }

    public long boundBits(int sweeps) {
        long error = scaleOrError(sweeps);
        return error != 0L ? error : DoubleBits.of(scaling.bound());
    }

    // ---- taking apart

    public int part(int part, boolean isWeight) {
        if (!matrix.canBeTakenApart()) {
            return NOT_POSSIBLE;
        }
        takingApart.takeApart(matrix);
        if (part < 0 || part >= takingApart.count()) {
            return UNKNOWN;
        }
        return isWeight ? takingApart.weight(part) : takingApart.diagonal(part);
    }

    public int parts() {
        if (!matrix.canBeTakenApart()) {
            return NOT_POSSIBLE;
        }
        takingApart.takeApart(matrix);
        return takingApart.count();
    }

    // ---- helpers of the face

    private static boolean isEntry(int number) {
        return number >= -GREATEST_ENTRY && number <= GREATEST_ENTRY;
    }

    private void changeToNext() {
        history.record(matrix);
        matrix.copyFrom(next);
    }

    private int changeIfUnlike() {
        int unlike = next.countUnlike(matrix);
        if (unlike == 0) {
            return NONE;
        }
        changeToNext();
        return unlike;
    }

    private long expand(Matrix from, int rows, int columns) {
        sums.begin();
        for (int row = 0; row < from.size(); row++) {
            if ((rows & (1 << row)) != 0) {
                sums.takeRow(from, row, false);
            }
        }
        return sums.of(columns);
    }

    private long expandWithout(Matrix from, int row, int column) {
        return expand(from, from.allLines() & ~(1 << row), from.allLines() & ~(1 << column));
    }

    private long sumOfExpansions(Matrix from, int k) {
        sums.begin();
        for (int row = 0; row < from.size(); row++) {
            sums.takeRowOrNot(from, row);
        }
        return sums.sumOfSize(k);
    }

    /** The answer 0 says that there is no error, and that the scaling stands behind the sweeps. */
    private long scaleOrError(int sweeps) {
        if (sweeps < 0 || sweeps > MOST_SWEEPS) {
            return LONG_OUT_OF_RANGE;
        }
        if (!matrix.canBeScaled()) {
            return LONG_NOT_POSSIBLE;
        }
        scaling.begin(matrix);
        for (int sweep = 0; sweep < sweeps; sweep++) {
            scaling.sweep();
        }
        return 0L;
    }

    /** A square matrix. Its lines stand at the same places whatever its size is; what is outside of it is 0. */
    private static final class Matrix {
        private final int[] cells;
        private int size;

        Matrix() {
            cells = new int[MOST_CELLS];
            size = FIRST_ROWS;
        }

        int size() {
            return size;
        }

        boolean has(int line) {
            return line >= 0 && line < size;
        }

        int allLines() {
            return (1 << size) - 1;
        }

        int at(int row, int column) {
            return has(row) && has(column) ? cells[row * MOST_ROWS + column] : 0;
        }

        void put(int row, int column, int entry) {
            if (has(row) && has(column)) {
                cells[row * MOST_ROWS + column] = entry;
            }
        }

        void fillWithZeros(int rows) {
            for (int cell = 0; cell < MOST_CELLS; cell++) {
                cells[cell] = 0;
            }
            resize(rows);
        }

        /** No other size is ever taken, so that each line has its place among the cells. */
        void resize(int rows) {
            if (rows >= 1 && rows <= MOST_ROWS) {
                size = rows;
            }
        }

        void copyFrom(Matrix other) {
            if (other != null) {
                System.arraycopy(other.cells, 0, cells, 0, MOST_CELLS);
                size = other.size;
            }
        }

        void markNotZero(Matrix other) {
            fillWithZeros(other.size);
            for (int row = 0; row < size; row++) {
                for (int column = 0; column < size; column++) {
                    put(row, column, other.at(row, column) == 0 ? 0 : 1);
                }
            }
        }

        int countUnlike(Matrix other) {
            int count = 0;
            for (int row = 0; row < size; row++) {
                for (int column = 0; column < size; column++) {
                    if (at(row, column) != other.at(row, column)) {
                        count++;
                    }
                }
            }
            return count;
        }

        int countNotZero() {
            int count = 0;
            for (int row = 0; row < size; row++) {
                count += Integer.bitCount(columnsOfRow(row));
            }
            return count;
        }

        int columnsOfRow(int row) {
            int columns = 0;
            for (int column = 0; column < size; column++) {
                if (at(row, column) != 0) {
                    columns |= 1 << column;
                }
            }
            return columns;
        }

        int columnsOf(int rows) {
            int columns = 0;
            for (int row = 0; row < size; row++) {
                if ((rows & (1 << row)) != 0) {
                    columns |= columnsOfRow(row);
                }
            }
            return columns;
        }

        int sumOfRow(int row) {
            int sum = 0;
            for (int column = 0; column < size; column++) {
                sum += at(row, column);
            }
            return sum;
        }

        int sumOfColumn(int column) {
            int sum = 0;
            for (int row = 0; row < size; row++) {
                sum += at(row, column);
            }
            return sum;
        }

        int sumOfAll() {
            int sum = 0;
            for (int row = 0; row < size; row++) {
                sum += sumOfRow(row);
            }
            return sum;
        }

        int greatest() {
            int greatest = at(0, 0);
            for (int row = 0; row < size; row++) {
                for (int column = 0; column < size; column++) {
                    greatest = Math.max(greatest, at(row, column));
                }
            }
            return greatest;
        }

        int least() {
            int least = at(0, 0);
            for (int row = 0; row < size; row++) {
                for (int column = 0; column < size; column++) {
                    least = Math.min(least, at(row, column));
                }
            }
            return least;
        }

        boolean isSymmetric() {
            for (int row = 1; row < size; row++) {
                for (int column = 0; column < row; column++) {
                    if (at(row, column) != at(column, row)) {
                        return false;
                    }
                }
            }
            return true;
        }

        boolean hasLikeSums() {
            int sum = sumOfRow(0);
            for (int line = 0; line < size; line++) {
                if (sumOfRow(line) != sum || sumOfColumn(line) != sum) {
                    return false;
                }
            }
            return true;
        }

        boolean canBeTakenApart() {
            return least() >= 0 && hasLikeSums() && sumOfRow(0) >= 1;
        }

        boolean canBeScaled() {
            if (least() < 0) {
                return false;
            }
            // Without negative entries a line has an entry greater than 0 just if its sum is greater than 0.
            for (int line = 0; line < size; line++) {
                if (sumOfRow(line) <= 0 || sumOfColumn(line) <= 0) {
                    return false;
                }
            }
            return true;
        }

        boolean hasDiagonal(int number) {
            if (number < 0) {
                return false;
            }
            int used = 0;
            int digits = number;
            for (int row = size - 1; row >= 0; row--) {
                int column = digits % 10;
                if (!has(column) || (used & (1 << column)) != 0) {
                    return false;
                }
                used |= 1 << column;
                digits /= 10;
            }
            return digits == 0;
        }

        int greatestOn(int diagonal) {
            int greatest = -GREATEST_ENTRY;
            int digits = diagonal;
            for (int row = size - 1; row >= 0; row--) {
                greatest = Math.max(greatest, at(row, digits % 10));
                digits /= 10;
            }
            return greatest;
        }

        int leastOn(int diagonal) {
            int least = GREATEST_ENTRY;
            int digits = diagonal;
            for (int row = size - 1; row >= 0; row--) {
                least = Math.min(least, at(row, digits % 10));
                digits /= 10;
            }
            return least;
        }

        int sumOn(int diagonal) {
            int sum = 0;
            int digits = diagonal;
            for (int row = size - 1; row >= 0; row--) {
                sum += at(row, digits % 10);
                digits /= 10;
            }
            return sum;
        }

        void increaseOn(int diagonal, int amount) {
            int digits = diagonal;
            for (int row = size - 1; row >= 0; row--) {
                int column = digits % 10;
                put(row, column, at(row, column) + amount);
                digits /= 10;
            }
        }
    }

    /** The latest states, in a ring, so that the oldest one gives its place to the newest. */
    private static final class History {
        private final Matrix[] states;
        private int oldest;
        private int count;

        History() {
            states = new Matrix[MOST_STATES];
            for (int place = 0; place < MOST_STATES; place++) {
                states[place] = new Matrix();
            }
            oldest = 0;
            count = 0;
        }

        int count() {
            return count;
        }

        void record(Matrix state) {
            Matrix place = placeOf(count);
            if (place == null) {
                return;
            }
            place.copyFrom(state);
            if (count < MOST_STATES) {
                count++;
            } else {
                oldest = (oldest + 1) % MOST_STATES;
            }
        }

        void takeLatest(Matrix into) {
            if (count > 0) {
                count--;
                into.copyFrom(placeOf(count));
            }
        }

        private Matrix placeOf(int age) {
            int place = (oldest + age) % MOST_STATES;
            return place >= 0 && place < states.length ? states[place] : null;
        }
    }

    /** The text. */
    private static final class Text {
        private final char[] characters;
        private int length;

        Text() {
            characters = new char[MOST_CHARACTERS];
            length = 0;
        }

        int length() {
            return length;
        }

        boolean isFull() {
            return length >= MOST_CHARACTERS;
        }

        void append(char character) {
            if (length >= 0 && length < MOST_CHARACTERS) {
                characters[length] = character;
                length++;
            }
        }

        void empty() {
            length = 0;
        }

        /** Any character can be typed, so the end answers with a number that is none. */
        int at(int place) {
            return place >= 0 && place < length && place < MOST_CHARACTERS ? characters[place] : NO_CHARACTER;
        }
    }

    /** Reads a text from its first character on, and stays at the first one that is not allowed. */
    private static final class TextReader {
        private int place;
        private int row;
        private int column;
        private int rows;
        private int value;

        TextReader() {
            start();
        }

        /** The number of rows is 0 until the first row has ended. */
        private void start() {
            place = 0;
            row = 0;
            column = 0;
            rows = 0;
            value = 0;
        }

        /** Answers the fault of the text; if there is one, the matrix is left half read. */
        int readInto(Matrix matrix, Text text) {
            start();
            matrix.fillWithZeros(MOST_ROWS);
            for (int entry = 0; entry < MOST_CELLS; entry++) {
                if (!takeEntry(text)) {
                    return place;
                }
                matrix.put(row, column, value);
                if (place >= text.length()) {
                    return endWith(matrix);
                }
                if (!takeSeparator(text)) {
                    return place;
                }
            }
            return place;
        }

        private int endWith(Matrix matrix) {
            int due = rows == 0 ? column + 1 : rows;
            if (column + 1 != due || row + 1 != due) {
                return place;
            }
            matrix.resize(due);
            return NO_FAULT;
        }

        private boolean takeEntry(Text text) {
            boolean isNegative = text.at(place) == '-';
            if (isNegative) {
                place++;
            }
            int first = text.at(place);
            if (!isDigit(first) || (isNegative && first == '0')) {
                return false;
            }
            int number = first - '0';
            place++;
            while (place < text.length() && isDigit(text.at(place))) {
                int longer = number * 10 + text.at(place) - '0';
                if (number == 0 || longer > GREATEST_ENTRY) {
                    return false;
                }
                number = longer;
                place++;
            }
            value = isNegative ? -number : number;
            return true;
        }

        private boolean takeSeparator(Text text) {
            int separator = text.at(place);
            if (separator == ',') {
                return takeComma();
            }
            return separator == '/' && takeSlash();
        }

        private boolean takeComma() {
            int most = rows == 0 ? MOST_ROWS : rows;
            if (column + 1 >= most) {
                return false;
            }
            column++;
            place++;
            return true;
        }

        private boolean takeSlash() {
            int due = rows == 0 ? column + 1 : rows;
            if (column + 1 != due || row + 1 >= due) {
                return false;
            }
            rows = due;
            row++;
            column = 0;
            place++;
            return true;
        }

        private static boolean isDigit(int character) {
            return character >= '0' && character <= '9';
        }
    }

    /**
     * For each set of columns a sum, over all ways to give each row that has been taken one of these columns, of
     * the products of the entries there. With the entries 0 and 1 these are numbers of ways.
     */
    private static final class ColumnSums {
        private final long[] sums;

        ColumnSums() {
            sums = new long[MOST_SETS];
        }

        void begin() {
            for (int set = 0; set < MOST_SETS; set++) {
                sums[set] = 0L;
            }
            sums[0] = 1L;
        }

        long of(int set) {
            return set >= 0 && set < MOST_SETS ? sums[set] : 0L;
        }

        private void put(int set, long sum) {
            if (set >= 0 && set < MOST_SETS) {
                sums[set] = sum;
            }
        }

        /** From great sets to small ones, for a sum is made of those of smaller sets without this row. */
        void takeRow(Matrix matrix, int row, boolean isSigned) {
            for (int set = matrix.allLines(); set >= 0; set--) {
                put(set, sumWithRow(matrix, row, set, isSigned));
            }
        }

        void takeRowOrNot(Matrix matrix, int row) {
            for (int set = matrix.allLines(); set >= 0; set--) {
                put(set, of(set) + sumWithRow(matrix, row, set, false));
            }
        }

        private long sumWithRow(Matrix matrix, int row, int set, boolean isSigned) {
            long sum = 0L;
            for (int column = 0; column < matrix.size(); column++) {
                int rest = set & ~(1 << column);
                if (rest != set) {
                    long product = of(rest) * matrix.at(row, column);
                    // The greater columns in the rest are those of upper rows.
                    boolean isOdd = (Integer.bitCount(rest >> column) & 1) != 0;
                    sum += isSigned && isOdd ? -product : product;
                }
            }
            return sum;
        }

        long sumOfSize(int size) {
            long sum = 0L;
            for (int set = 0; set < MOST_SETS; set++) {
                if (Integer.bitCount(set) == size) {
                    sum += sums[set];
                }
            }
            return sum;
        }

        long sumOfAll() {
            long sum = 0L;
            for (int set = 0; set < MOST_SETS; set++) {
                sum += sums[set];
            }
            return sum;
        }

        int countNotZero() {
            int count = 0;
            for (int set = 0; set < MOST_SETS; set++) {
                if (sums[set] != 0L) {
                    count++;
                }
            }
            return count;
        }
    }

    /** For each set of columns that the first rows have used, what there is to know of the ways to go on to the end. */
    private static final class Endings {
        private final int[] values;

        Endings() {
            values = new int[MOST_SETS];
        }

        int of(int used) {
            return used >= 0 && used < MOST_SETS ? values[used] : 0;
        }

        private void put(int used, int value) {
            if (used >= 0 && used < MOST_SETS) {
                values[used] = value;
            }
        }

        void countWhole(Matrix matrix) {
            int all = matrix.allLines();
            put(all, 1);
            for (int used = all - 1; used >= 0; used--) {
                int row = Integer.bitCount(used);
                int count = 0;
                for (int column = 0; column < matrix.size(); column++) {
                    count += countThrough(matrix, row, column, used);
                }
                put(used, count);
            }
        }

        private int countThrough(Matrix matrix, int row, int column, int used) {
            int with = used | (1 << column);
            return with == used || matrix.at(row, column) == 0 ? 0 : of(with);
        }

        /** The ones through lesser columns come first. Whole ones must have been counted, and be more than the rank. */
        int diagonalOfRank(Matrix matrix, int rank) {
            int diagonal = 0;
            int used = 0;
            int left = rank;
            for (int row = 0; row < matrix.size(); row++) {
                int column = 0;
                int through = countThrough(matrix, row, column, used);
                while (column < matrix.size() - 1 && left >= through) {
                    left -= through;
                    column++;
                    through = countThrough(matrix, row, column, used);
                }
                diagonal = diagonal * 10 + column;
                used |= 1 << column;
            }
            return diagonal;
        }

        void findGreatestSums(Matrix matrix) {
            int all = matrix.allLines();
            put(all, 0);
            for (int used = all - 1; used >= 0; used--) {
                int row = Integer.bitCount(used);
                int greatest = BELOW_ALL_SUMS;
                for (int column = 0; column < matrix.size(); column++) {
                    greatest = Math.max(greatest, sumThrough(matrix, row, column, used));
                }
                put(used, greatest);
            }
        }

        private int sumThrough(Matrix matrix, int row, int column, int used) {
            int with = used | (1 << column);
            return with == used ? BELOW_ALL_SUMS : matrix.at(row, column) + of(with);
        }

        /** The greatest sums must have been found. */
        int diagonalOfGreatestSum(Matrix matrix) {
            int diagonal = 0;
            int used = 0;
            for (int row = 0; row < matrix.size(); row++) {
                int column = 0;
                while (column < matrix.size() - 1 && sumThrough(matrix, row, column, used) < of(used)) {
                    column++;
                }
                diagonal = diagonal * 10 + column;
                used |= 1 << column;
            }
            return diagonal;
        }
    }

    /** A matrix that is scaled; the order of its sums and divisions is told by the document, and decides the last bits. */
    private static final class Scaling {
        private final double[] cells;
        private final double[] rowFactors;
        private final double[] columnFactors;
        private int size;

        Scaling() {
            cells = new double[MOST_CELLS];
            rowFactors = new double[MOST_ROWS];
            columnFactors = new double[MOST_ROWS];
            size = 0;
        }

        void begin(Matrix matrix) {
            size = Math.min(matrix.size(), MOST_ROWS);
            for (int row = 0; row < size; row++) {
                rowFactors[row] = 1.0;
                columnFactors[row] = 1.0;
                for (int column = 0; column < size; column++) {
                    cells[row * MOST_ROWS + column] = (double) matrix.at(row, column);
                }
            }
        }

        double at(int row, int column) {
            boolean isInside = row >= 0 && row < size && column >= 0 && column < size;
            return isInside ? cells[row * MOST_ROWS + column] : 0.0;
        }

        void sweep() {
            for (int row = 0; row < size; row++) {
                double sum = sumOfRow(row);
                divideRow(row, sum);
                rowFactors[row] = rowFactors[row] * sum;
            }
            for (int column = 0; column < size; column++) {
                double sum = sumOfColumn(column);
                divideColumn(column, sum);
                columnFactors[column] = columnFactors[column] * sum;
            }
        }

        private double sumOfRow(int row) {
            double sum = 0.0;
            for (int column = 0; column < size; column++) {
                sum = sum + at(row, column);
            }
            return sum;
        }

        private double sumOfColumn(int column) {
            double sum = 0.0;
            for (int row = 0; row < size; row++) {
                sum = sum + at(row, column);
            }
            return sum;
        }

        private void divideRow(int row, double sum) {
            for (int column = 0; column < size; column++) {
                divide(row, column, sum);
            }
        }

        private void divideColumn(int column, double sum) {
            for (int row = 0; row < size; row++) {
                divide(row, column, sum);
            }
        }

        private void divide(int row, int column, double sum) {
            if (sum > 0.0 && row >= 0 && row < size && column >= 0 && column < size) {
                cells[row * MOST_ROWS + column] = cells[row * MOST_ROWS + column] / sum;
            }
        }

        double greatestGap() {
            double greatest = 0.0;
            for (int row = 0; row < size; row++) {
                double difference = sumOfRow(row) - 1.0;
                double gap = difference < 0.0 ? -difference : difference;
                greatest = gap > greatest ? gap : greatest;
            }
            return greatest;
        }

        double bound() {
            double bound = 1.0;
            for (int k = 1; k <= size; k++) {
                bound = bound * (double) k;
                bound = bound / (double) size;
            }
            for (int row = 0; row < size; row++) {
                bound = bound * rowFactors[row];
            }
            for (int column = 0; column < size; column++) {
                bound = bound * columnFactors[column];
            }
            return bound;
        }
    }

    /** The bits of doubles from 0.0 on, by arithmetic that is exact: only powers of 2 are factors and divisors. */
    private static final class DoubleBits {
        private static final int BIAS = 1023;
        private static final int FRACTION_BITS = 52;
        private static final int MOST_STEPS = 40;
        private static final long HIDDEN_BIT = 4503599627370496L;

        private DoubleBits() {
        }

        static long of(double number) {
            if (!(number > 0.0)) {
                return 0L;
            }
            double scaled = number;
            int exponent = BIAS;
            // Steps of 32 bits first: a bound can be near the least double that there is.
            for (int step = 0; step < MOST_STEPS && scaled >= 4294967296.0; step++) {
                scaled = scaled / 4294967296.0;
                exponent += 32;
            }
            for (int step = 0; step < MOST_STEPS && scaled * 4294967296.0 < 1.0; step++) {
                scaled = scaled * 4294967296.0;
                exponent -= 32;
            }
            for (int step = 0; step < MOST_STEPS && scaled >= 2.0; step++) {
                scaled = scaled / 2.0;
                exponent++;
            }
            for (int step = 0; step < MOST_STEPS && scaled < 1.0; step++) {
                scaled = scaled * 2.0;
                exponent--;
            }
            return join(exponent, (long) (scaled * (double) HIDDEN_BIT));
        }

        /** A number below the normal ones has no hidden bit, and its exponent stays at that of the least of them. */
        private static long join(int exponent, long digits) {
            if (exponent < 1) {
                return digits >> Math.min(1 - exponent, FRACTION_BITS + 1);
            }
            return ((long) exponent << FRACTION_BITS) + (digits - HIDDEN_BIT);
        }
    }

    /** The parts of a matrix that can be taken apart. Each part makes an entry 0, so there are no more than cells. */
    private static final class TakingApart {
        private final Matrix left;
        private final Endings endings;
        private final int[] diagonals;
        private final int[] weights;
        private int count;

        TakingApart() {
            left = new Matrix();
            endings = new Endings();
            diagonals = new int[MOST_CELLS];
            weights = new int[MOST_CELLS];
            count = 0;
        }

        int count() {
            return count;
        }

        int diagonal(int index) {
            return index >= 0 && index < count && index < MOST_CELLS ? diagonals[index] : 0;
        }

        int weight(int index) {
            return index >= 0 && index < count && index < MOST_CELLS ? weights[index] : 0;
        }

        void takeApart(Matrix matrix) {
            left.copyFrom(matrix);
            count = 0;
            for (int index = 0; index < MOST_CELLS && left.countNotZero() > 0; index++) {
                endings.countWhole(left);
                int diagonal = endings.diagonalOfRank(left, 0);
                int weight = left.leastOn(diagonal);
                left.increaseOn(diagonal, -weight);
                diagonals[index] = diagonal;
                weights[index] = weight;
                count = index + 1;
            }
        }
    }
}
