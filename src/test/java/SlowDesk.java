import java.util.ArrayDeque;
import java.util.ArrayList;
import java.util.HashSet;
import java.util.List;
import java.util.Set;

/** The document once more, by its definitions and by the slowest ways: every diagonal is looked at. */
final class SlowDesk {
    private static final int UNKNOWN = -2000000001;
    private static final int OUT_OF_RANGE = -2000000002;
    private static final int FULL = -2000000003;
    private static final int NOT_POSSIBLE = -2000000004;
    private static final int NONE = -2000000005;
    private static final long LONG_UNKNOWN = -9000000000000000001L;
    private static final long LONG_OUT_OF_RANGE = -9000000000000000002L;
    private static final long LONG_NOT_POSSIBLE = -9000000000000000004L;

    private static final List<List<int[]>> ORDERS = allOrders();

    private int[][] matrix = new int[3][3];
    private int[][] snapshot = null;
    private final ArrayDeque<int[][]> history = new ArrayDeque<>();
    private final StringBuilder text = new StringBuilder();

    private static List<List<int[]>> allOrders() {
        List<List<int[]>> all = new ArrayList<>();
        for (int n = 0; n <= 7; n++) {
            List<int[]> orders = new ArrayList<>();
            extend(orders, new int[n], 0);
            all.add(orders);
        }
        return all;
    }

    private static void extend(List<int[]> orders, int[] order, int length) {
        if (length == order.length) {
            orders.add(order.clone());
            return;
        }
        for (int next = 0; next < order.length; next++) {
            boolean isFree = true;
            for (int i = 0; i < length; i++) {
                isFree &= order[i] != next;
            }
            if (isFree) {
                order[length] = next;
                extend(orders, order, length + 1);
            }
        }
    }

    private int n() {
        return matrix.length;
    }

    private boolean isLine(int line) {
        return 0 <= line && line < n();
    }

    private static int[][] copy(int[][] of) {
        int[][] copy = new int[of.length][];
        for (int r = 0; r < of.length; r++) {
            copy[r] = of[r].clone();
        }
        return copy;
    }

    private void become(int[][] next) {
        history.addLast(copy(matrix));
        if (history.size() > 4) {
            history.removeFirst();
        }
        matrix = copy(next);
    }

    private int becomeIfUnlike(int[][] next) {
        int unlike = 0;
        for (int r = 0; r < n(); r++) {
            for (int c = 0; c < n(); c++) {
                unlike += next[r][c] != matrix[r][c] ? 1 : 0;
            }
        }
        if (unlike == 0) {
            return NONE;
        }
        become(next);
        return unlike;
    }

    private static int number(int[] order) {
        int number = 0;
        for (int digit : order) {
            number = number * 10 + digit;
        }
        return number;
    }

    private static boolean isWhole(int[][] m, int[] order) {
        for (int r = 0; r < m.length; r++) {
            if (m[r][order[r]] == 0) {
                return false;
            }
        }
        return true;
    }

    int clear(int rows) {
        if (rows < 1 || rows > 7) {
            return OUT_OF_RANGE;
        }
        int before = n();
        become(new int[rows][rows]);
        return before;
    }

    int set(int row, int column, int entry) {
        if (!isLine(row) || !isLine(column)) {
            return UNKNOWN;
        }
        if (entry < -20 || entry > 20) {
            return OUT_OF_RANGE;
        }
        int before = matrix[row][column];
        if (before == entry) {
            return NONE;
        }
        int[][] next = copy(matrix);
        next[row][column] = entry;
        become(next);
        return before;
    }

    int swapRows(int one, int other) {
        if (!isLine(one) || !isLine(other)) {
            return UNKNOWN;
        }
        int[][] next = copy(matrix);
        int[] row = next[one];
        next[one] = next[other];
        next[other] = row;
        return becomeIfUnlike(next);
    }

    int swapColumns(int one, int other) {
        if (!isLine(one) || !isLine(other)) {
            return UNKNOWN;
        }
        int[][] next = copy(matrix);
        for (int[] row : next) {
            int entry = row[one];
            row[one] = row[other];
            row[other] = entry;
        }
        return becomeIfUnlike(next);
    }

    int transpose() {
        int[][] next = copy(matrix);
        for (int r = 0; r < n(); r++) {
            for (int c = 0; c < n(); c++) {
                next[c][r] = matrix[r][c];
            }
        }
        return becomeIfUnlike(next);
    }

    int multiply(int row, int factor) {
        if (!isLine(row)) {
            return UNKNOWN;
        }
        if (Math.abs(factor) > 9) {
            return OUT_OF_RANGE;
        }
        int[][] next = copy(matrix);
        for (int c = 0; c < n(); c++) {
            next[row][c] *= factor;
            if (Math.abs(next[row][c]) > 20) {
                return NOT_POSSIBLE;
            }
        }
        return becomeIfUnlike(next);
    }

    int add(int diagonal) {
        for (int[] order : ORDERS.get(n())) {
            if (number(order) == diagonal) {
                return addTo(order);
            }
        }
        return UNKNOWN;
    }

    private int addTo(int[] order) {
        int[][] next = copy(matrix);
        int sum = 0;
        for (int r = 0; r < n(); r++) {
            next[r][order[r]]++;
            if (next[r][order[r]] > 20) {
                return NOT_POSSIBLE;
            }
            sum += next[r][order[r]];
        }
        become(next);
        return sum;
    }

    int type(char character) {
        if (text.length() == 100) {
            return FULL;
        }
        text.append(character);
        return text.length();
    }

    int clearText() {
        int before = text.length();
        text.setLength(0);
        return before;
    }

    int read() {
        String all = text.toString();
        for (int length = 1; length <= all.length(); length++) {
            if (!isBeginning(all.substring(0, length))) {
                return -100 - (length - 1);
            }
        }
        int[][] next = parse(all);
        if (next == null) {
            return -100 - all.length();
        }
        become(next);
        return next.length;
    }

    private static final String ENTRY = "0|-?([1-9]|1[0-9]|20)";

    /** Whether some text without a fault begins like this. */
    private static boolean isBeginning(String text) {
        boolean isOne = false;
        for (int size = 1; size <= 7; size++) {
            isOne |= isBeginningFor(text, size);
        }
        return isOne;
    }

    private static boolean isBeginningFor(String text, int size) {
        String[] rows = text.split("/", -1);
        if (rows.length > size) {
            return false;
        }
        for (int r = 0; r < rows.length; r++) {
            boolean isLastRow = r == rows.length - 1;
            String[] entries = rows[r].split(",", -1);
            if (entries.length > size || (!isLastRow && entries.length < size)) {
                return false;
            }
            for (int c = 0; c < entries.length; c++) {
                boolean isLast = isLastRow && c == entries.length - 1;
                boolean isOpen = entries[c].isEmpty() || entries[c].equals("-");
                if (!entries[c].matches(ENTRY) && !(isLast && isOpen)) {
                    return false;
                }
            }
        }
        return true;
    }

    private static int[][] parse(String text) {
        String[] rows = text.split("/", -1);
        int[][] parsed = new int[rows.length][rows.length];
        for (int r = 0; r < rows.length; r++) {
            String[] entries = rows[r].split(",", -1);
            if (entries.length != rows.length) {
                return null;
            }
            for (int c = 0; c < entries.length; c++) {
                if (!entries[c].matches(ENTRY)) {
                    return null;
                }
                parsed[r][c] = Integer.parseInt(entries[c]);
            }
        }
        return parsed;
    }

    int undo() {
        if (history.isEmpty()) {
            return NONE;
        }
        matrix = history.removeLast();
        return history.size();
    }

    int keep() {
        snapshot = copy(matrix);
        return n();
    }

    int restore() {
        if (snapshot == null) {
            return NONE;
        }
        become(snapshot);
        return n();
    }

    int entry(int row, int column) {
        return isLine(row) && isLine(column) ? matrix[row][column] : UNKNOWN;
    }

    int total(int what) {
        List<Integer> entries = new ArrayList<>();
        Set<Integer> sums = new HashSet<>();
        boolean isSymmetric = true;
        for (int r = 0; r < n(); r++) {
            sums.add(lineSum(r, false));
            sums.add(lineSum(r, true));
            for (int c = 0; c < n(); c++) {
                entries.add(matrix[r][c]);
                isSymmetric &= matrix[r][c] == matrix[c][r];
            }
        }
        switch (what) {
            case 0: return n();
            case 1: return (int) entries.stream().filter(e -> e != 0).count();
            case 2: return entries.stream().mapToInt(e -> e).sum();
            case 3: return entries.stream().mapToInt(e -> e).max().orElse(0);
            case 4: return entries.stream().mapToInt(e -> e).min().orElse(0);
            case 5: return isSymmetric ? 1 : 0;
            case 6: return sums.size() == 1 ? 1 : 0;
            case 7: return history.size();
            case 8: return text.length();
            default: return OUT_OF_RANGE;
        }
    }

    int lineSum(int line, boolean isColumn) {
        if (!isLine(line)) {
            return UNKNOWN;
        }
        int sum = 0;
        for (int i = 0; i < n(); i++) {
            sum += isColumn ? matrix[i][line] : matrix[line][i];
        }
        return sum;
    }

    private static long sumOfProducts(int[][] m, boolean isSigned) {
        long sum = 0;
        for (int[] order : ORDERS.get(m.length)) {
            long product = 1;
            for (int r = 0; r < m.length; r++) {
                product *= m[r][order[r]];
                for (int upper = 0; upper < r; upper++) {
                    product *= isSigned && order[upper] > order[r] ? -1 : 1;
                }
            }
            sum += product;
        }
        return sum;
    }

    private static int[][] chosen(int[][] m, int rows, int columns) {
        int[][] chosen = new int[Integer.bitCount(rows)][Integer.bitCount(columns)];
        for (int r = 0, i = 0; r < m.length; r++) {
            if ((rows >> r & 1) == 0) {
                continue;
            }
            for (int c = 0, j = 0; c < m.length; c++) {
                if ((columns >> c & 1) != 0) {
                    chosen[i][j++] = m[r][c];
                }
            }
            i++;
        }
        return chosen;
    }

    private static int[][] marks(int[][] m) {
        int[][] marks = copy(m);
        for (int[] row : marks) {
            for (int c = 0; c < row.length; c++) {
                row[c] = row[c] == 0 ? 0 : 1;
            }
        }
        return marks;
    }

    long permanent() {
        return sumOfProducts(matrix, false);
    }

    long determinant() {
        return sumOfProducts(matrix, true);
    }

    long minor(int row, int column) {
        if (!isLine(row) || !isLine(column)) {
            return LONG_UNKNOWN;
        }
        int all = (1 << n()) - 1;
        return sumOfProducts(chosen(matrix, all - (1 << row), all - (1 << column)), false);
    }

    long permanentOf(int rows, int columns) {
        for (int bit = n(); bit < 32; bit++) {
            if ((rows >>> bit & 1) != 0 || (columns >>> bit & 1) != 0) {
                return LONG_UNKNOWN;
            }
        }
        if (Integer.bitCount(rows) != Integer.bitCount(columns)) {
            return LONG_NOT_POSSIBLE;
        }
        return sumOfProducts(chosen(matrix, rows, columns), false);
    }

    private static long sumOfPermanents(int[][] m, int k) {
        long sum = 0;
        for (int rows = 0; rows < 1 << m.length; rows++) {
            for (int columns = 0; columns < 1 << m.length; columns++) {
                if (Integer.bitCount(rows) == k && Integer.bitCount(columns) == k) {
                    sum += sumOfProducts(chosen(m, rows, columns), false);
                }
            }
        }
        return sum;
    }

    long sumOf(int k) {
        return k < 0 || k > n() ? LONG_OUT_OF_RANGE : sumOfPermanents(matrix, k);
    }

    private static List<int[]> wholeOnes(int[][] m) {
        List<int[]> whole = new ArrayList<>();
        for (int[] order : ORDERS.get(m.length)) {
            if (isWhole(m, order)) {
                whole.add(order);
            }
        }
        return whole;
    }

    int wholeDiagonals() {
        return wholeOnes(matrix).size();
    }

    int wholeDiagonal(int rank) {
        if (rank < 0) {
            return OUT_OF_RANGE;
        }
        List<int[]> whole = wholeOnes(matrix);
        return rank < whole.size() ? number(whole.get(rank)) : NONE;
    }

    int diagonalsThrough(int row, int column) {
        if (!isLine(row) || !isLine(column)) {
            return UNKNOWN;
        }
        int count = 0;
        for (int[] order : wholeOnes(matrix)) {
            count += order[row] == column ? 1 : 0;
        }
        return count;
    }

    int rooks(int k) {
        return k < 0 || k > n() ? OUT_OF_RANGE : (int) sumOfPermanents(marks(matrix), k);
    }

    int tooFew() {
        for (int size = 1; size <= n(); size++) {
            for (int rows = 0; rows < 1 << n(); rows++) {
                if (Integer.bitCount(rows) == size && columnsOf(rows).size() < size) {
                    return rows;
                }
            }
        }
        return NONE;
    }

    private Set<Integer> columnsOf(int rows) {
        Set<Integer> columns = new HashSet<>();
        for (int r = 0; r < n(); r++) {
            for (int c = 0; c < n(); c++) {
                if ((rows >> r & 1) != 0 && matrix[r][c] != 0) {
                    columns.add(c);
                }
            }
        }
        return columns;
    }

    int best(boolean isSum) {
        int greatest = Integer.MIN_VALUE;
        int[] found = null;
        for (int[] order : ORDERS.get(n())) {
            int sum = 0;
            for (int r = 0; r < n(); r++) {
                sum += matrix[r][order[r]];
            }
            if (sum > greatest) {
                greatest = sum;
                found = order;
            }
        }
        return isSum ? greatest : number(found);
    }

    int nodes(boolean withMemory) {
        List<String> reached = new ArrayList<>();
        reach(reached, 0, (1 << n()) - 1);
        return withMemory ? new HashSet<>(reached).size() : reached.size();
    }

    private void reach(List<String> reached, int row, int left) {
        reached.add(row + ":" + left);
        for (int c = 0; row < n() && c < n(); c++) {
            if ((left >> c & 1) != 0 && matrix[row][c] != 0) {
                reach(reached, row + 1, left - (1 << c));
            }
        }
    }

    private boolean isScalable() {
        for (int i = 0; i < n(); i++) {
            boolean rowHasOne = false;
            boolean columnHasOne = false;
            for (int j = 0; j < n(); j++) {
                if (matrix[i][j] < 0) {
                    return false;
                }
                rowHasOne |= matrix[i][j] > 0;
                columnHasOne |= matrix[j][i] > 0;
            }
            if (!rowHasOne || !columnHasOne) {
                return false;
            }
        }
        return true;
    }

    /** The entries, with the factors of the rows and those of the columns as two rows more. */
    private double[][] scaled(int sweeps) {
        double[][] a = new double[n() + 2][n()];
        for (int i = 0; i < n(); i++) {
            a[n()][i] = 1.0;
            a[n() + 1][i] = 1.0;
            for (int j = 0; j < n(); j++) {
                a[i][j] = matrix[i][j];
            }
        }
        for (int sweep = 0; sweep < sweeps; sweep++) {
            for (int r = 0; r < n(); r++) {
                double sum = 0.0;
                for (int c = 0; c < n(); c++) {
                    sum += a[r][c];
                }
                for (int c = 0; c < n(); c++) {
                    a[r][c] /= sum;
                }
                a[n()][r] *= sum;
            }
            for (int c = 0; c < n(); c++) {
                double sum = 0.0;
                for (int r = 0; r < n(); r++) {
                    sum += a[r][c];
                }
                for (int r = 0; r < n(); r++) {
                    a[r][c] /= sum;
                }
                a[n() + 1][c] *= sum;
            }
        }
        return a;
    }

    private long scalingError(int sweeps) {
        if (sweeps < 0 || sweeps > 50) {
            return LONG_OUT_OF_RANGE;
        }
        return isScalable() ? 0 : LONG_NOT_POSSIBLE;
    }

    long scaledBits(int row, int column, int sweeps) {
        if (!isLine(row) || !isLine(column)) {
            return LONG_UNKNOWN;
        }
        long error = scalingError(sweeps);
        return error != 0 ? error : Double.doubleToLongBits(scaled(sweeps)[row][column]);
    }

    long gapBits(int sweeps) {
        long error = scalingError(sweeps);
        if (error != 0) {
            return error;
        }
        double[][] a = scaled(sweeps);
        double gap = 0.0;
        for (int r = 0; r < n(); r++) {
            double sum = 0.0;
            for (int c = 0; c < n(); c++) {
                sum += a[r][c];
            }
            gap = Math.max(gap, Math.abs(sum - 1.0));
        }
        return Double.doubleToLongBits(gap);
    }

    long boundBits(int sweeps) {
        long error = scalingError(sweeps);
        if (error != 0) {
            return error;
        }
        double[][] a = scaled(sweeps);
        double b = 1.0;
        for (int k = 1; k <= n(); k++) {
            b *= k;
            b /= n();
        }
        for (int line = 0; line < 2 * n(); line++) {
            b *= a[n() + line / n()][line % n()];
        }
        return Double.doubleToLongBits(b);
    }

    /** Pairs of a diagonal and a weight, or null. */
    private List<int[]> apart() {
        if (total(4) < 0 || total(6) == 0 || lineSum(0, false) < 1) {
            return null;
        }
        List<int[]> parts = new ArrayList<>();
        int[][] left = copy(matrix);
        for (List<int[]> whole = wholeOnes(left); !whole.isEmpty(); whole = wholeOnes(left)) {
            int[] order = whole.get(0);
            int weight = Integer.MAX_VALUE;
            for (int r = 0; r < n(); r++) {
                weight = Math.min(weight, left[r][order[r]]);
            }
            for (int r = 0; r < n(); r++) {
                left[r][order[r]] -= weight;
            }
            parts.add(new int[] {number(order), weight});
        }
        return parts;
    }

    int part(int part, boolean isWeight) {
        List<int[]> parts = apart();
        if (parts == null) {
            return NOT_POSSIBLE;
        }
        return part < 0 || part >= parts.size() ? UNKNOWN : parts.get(part)[isWeight ? 1 : 0];
    }

    int parts() {
        List<int[]> parts = apart();
        return parts == null ? NOT_POSSIBLE : parts.size();
    }
}
