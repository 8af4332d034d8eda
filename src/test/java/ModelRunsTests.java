/** Long runs of calls, the same ones on a PermanentDesk and on a SlowDesk, whose answers have to be the same. */
public final class ModelRunsTests {
    private static final int RUNS = 1500;
    private static final int CALLS = 512;
    private static final int CALLS_AT_THE_END = 55;
    /** What is begun then, a filling at most, ends ahead of the calls at the end. */
    private static final int LAST_BEGIN = CALLS - CALLS_AT_THE_END - 60;
    private static final int CALLS_A_FILL = 170;

    private final Checks checks;
    private final int run;
    private long seed;
    private final PermanentDesk desk = new PermanentDesk();
    private final SlowDesk slow = new SlowDesk();
    private int size = 3;
    private int calls = 0;

    private ModelRunsTests(Checks checks, int run) {
        this.checks = checks;
        this.run = run;
        this.seed = run * 7919L + 12345L;
    }

    /** A sequence of numbers that is the same each time. */
    private int below(int bound) {
        seed = seed * 6364136223846793005L + 1442695040888963407L;
        return (int) ((seed >>> 33) % bound);
    }

    private int from(int least, int greatest) {
        return least + below(greatest - least + 1);
    }

    private int line() {
        return below(25) == 0 ? (below(2) == 0 ? -1 - below(3) : size + below(9)) : below(size);
    }

    private int sweeps() {
        return below(12) == 0 ? (below(2) == 0 ? -1 : 51) : (below(4) == 0 ? 50 : below(8));
    }

    private int entryOfStyle() {
        switch (run % 6) {
            case 0: return from(0, 1);
            case 1: return from(-2, 2);
            case 2: return from(0, 20);
            case 3: return below(3) == 0 ? from(1, 9) : 0;
            case 4: return from(-20, 20);
            default: return below(4) == 0 ? 0 : 1;
        }
    }

    private int diagonal() {
        int[] order = new int[size];
        for (int i = 0; i < size; i++) {
            int j = below(i + 1);
            order[i] = order[j];
            order[j] = i;
        }
        int number = 0;
        for (int digit : order) {
            number = number * 10 + digit;
        }
        switch (below(20)) {
            case 0: return number + 1;
            case 1: return number * 10;
            case 2: return -number;
            default: return number;
        }
    }

    private void same(String call, long got, long want) {
        calls++;
        checks.due("run " + run + ", call " + calls + ": " + call, got, want);
    }

    private void type(char character) {
        same("type((char) " + (int) character + ")", desk.type(character), slow.type(character));
    }

    private void clear(int rows) {
        same("clear(" + rows + ")", desk.clear(rows), slow.clear(rows));
        size = slow.total(0);
    }

    /** A text of a matrix, at times with one character that is another, or missing, or too many. */
    private void typeMatrix() {
        same("clearText()", desk.clearText(), slow.clearText());
        int rows = from(1, 4);
        StringBuilder text = new StringBuilder();
        for (int cell = 0; cell < rows * rows; cell++) {
            text.append(cell == 0 ? "" : cell % rows == 0 ? "/" : ",").append(entryOfStyle());
        }
        String odd = "0123456789-,/ x";
        int place = below(text.length());
        switch (below(6)) {
            case 0: text.setCharAt(place, odd.charAt(below(odd.length()))); break;
            case 1: text.deleteCharAt(place); break;
            case 2: text.insert(place, odd.charAt(below(odd.length()))); break;
            case 3: text.append(odd.charAt(below(odd.length()))); break;
            default: break;
        }
        for (int i = 0; i < text.length() && calls < CALLS - CALLS_AT_THE_END; i++) {
            type(text.charAt(i));
        }
        read();
    }

    private void read() {
        same("read()", desk.read(), slow.read());
        size = slow.total(0);
    }

    private void oneChange(int kind) {
        switch (kind) {
            case 0: clear(below(10) == 0 ? below(2) * 8 : from(1, run % 10 == 0 ? 7 : 5)); break;
            case 1: case 2: case 3: {
                int r = line(), c = line(), e = below(30) == 0 ? (below(2) * 2 - 1) * 21 : entryOfStyle();
                same("set(" + r + ", " + c + ", " + e + ")", desk.set(r, c, e), slow.set(r, c, e));
                break;
            }
            case 4: {
                int a = line(), b = line();
                same("swapRows(" + a + ", " + b + ")", desk.swapRows(a, b), slow.swapRows(a, b));
                break;
            }
            case 5: {
                int a = line(), b = line();
                same("swapColumns(" + a + ", " + b + ")", desk.swapColumns(a, b), slow.swapColumns(a, b));
                break;
            }
            case 6: same("transpose()", desk.transpose(), slow.transpose()); break;
            case 7: {
                int r = line(), f = below(3) == 0 ? from(-10, 10) : from(-1, 3);
                same("multiply(" + r + ", " + f + ")", desk.multiply(r, f), slow.multiply(r, f));
                break;
            }
            case 8: case 9: {
                int d = diagonal();
                same("add(" + d + ")", desk.add(d), slow.add(d));
                break;
            }
            case 10: typeMatrix(); break;
            case 11: type("0123456789-,/\u00e9\u2603".charAt(below(15))); read(); break;
            case 12: same("undo()", desk.undo(), slow.undo()); break;
            case 13: same("keep()", desk.keep(), slow.keep()); break;
            default: same("restore()", desk.restore(), slow.restore()); break;
        }
        size = slow.total(0);
    }

    private void oneQuestion(int kind) {
        int r = line(), c = line(), k = below(12) == 0 ? (below(2) == 0 ? -1 : size + 1) : from(0, size), s = sweeps();
        boolean is = below(2) == 0;
        String at = "(" + r + ", " + c + ")";
        switch (kind) {
            case 0: same("entry" + at, desk.entry(r, c), slow.entry(r, c)); break;
            case 1: { int w = from(-1, 9); same("total(" + w + ")", desk.total(w), slow.total(w)); break; }
            case 2: same("lineSum(" + r + ", " + is + ")", desk.lineSum(r, is), slow.lineSum(r, is)); break;
            case 3: same("permanent()", desk.permanent(), slow.permanent()); break;
            case 4: same("determinant()", desk.determinant(), slow.determinant()); break;
            case 5: same("minor" + at, desk.minor(r, c), slow.minor(r, c)); break;
            case 6: {
                int a = below(1 << size), b = below(20) == 0 ? -1 - below(99) : below(1 << size + below(2));
                same("permanentOf(" + a + ", " + b + ")", desk.permanentOf(a, b), slow.permanentOf(a, b));
                same("permanentOf(" + b + ", " + a + ")", desk.permanentOf(b, a), slow.permanentOf(b, a));
                break;
            }
            case 7: same("sumOf(" + k + ")", desk.sumOf(k), slow.sumOf(k)); break;
            case 8: same("wholeDiagonals()", desk.wholeDiagonals(), slow.wholeDiagonals()); break;
            case 9: {
                int rank = from(-1, slow.wholeDiagonals());
                same("wholeDiagonal(" + rank + ")", desk.wholeDiagonal(rank), slow.wholeDiagonal(rank));
                break;
            }
            case 10: same("diagonalsThrough" + at, desk.diagonalsThrough(r, c), slow.diagonalsThrough(r, c)); break;
            case 11: same("rooks(" + k + ")", desk.rooks(k), slow.rooks(k)); break;
            case 12: same("tooFew()", desk.tooFew(), slow.tooFew()); break;
            case 13: same("best(" + is + ")", desk.best(is), slow.best(is)); break;
            case 14: same("nodes(" + is + ")", desk.nodes(is), slow.nodes(is)); break;
            case 15: same("scaledBits" + at + " " + s, desk.scaledBits(r, c, s), slow.scaledBits(r, c, s)); break;
            case 16: same("gapBits(" + s + ")", desk.gapBits(s), slow.gapBits(s)); break;
            case 17: same("boundBits(" + s + ")", desk.boundBits(s), slow.boundBits(s)); break;
            case 18: {
                int p = from(-1, Math.max(0, slow.parts()));
                same("part(" + p + ", " + is + ")", desk.part(p, is), slow.part(p, is));
                break;
            }
            default: same("parts()", desk.parts(), slow.parts()); break;
        }
    }

    private void fill() {
        clear(run % 10 == 0 ? 7 : from(1, 6));
        if (run % 4 == 1) {
            for (int i = 0; i < 20; i++) {
                oneChange(8);
            }
            return;
        }
        for (int r = 0; r < size; r++) {
            for (int c = 0; c < size; c++) {
                int e = entryOfStyle();
                same("set(" + r + ", " + c + ", " + e + ")", desk.set(r, c, e), slow.set(r, c, e));
            }
        }
    }

    /** Some of the matrix: all of it would be too many calls for one object. */
    private void samePlaces() {
        int r = below(size), c = below(size);
        same("total(0)", desk.total(0), slow.total(0));
        same("entry(" + r + ", " + c + ")", desk.entry(r, c), slow.entry(r, c));
        same("lineSum(" + r + ", false)", desk.lineSum(r, false), slow.lineSum(r, false));
        same("lineSum(" + c + ", true)", desk.lineSum(c, true), slow.lineSum(c, true));
    }

    private void sameMatrix() {
        for (int r = 0; r < size; r++) {
            for (int c = 0; c < size; c++) {
                same("entry(" + r + ", " + c + ")", desk.entry(r, c), slow.entry(r, c));
            }
        }
    }

    private void go() {
        int nextFill = 0;
        while (calls < LAST_BEGIN) {
            if (calls >= nextFill) {
                fill();
                nextFill = calls + CALLS_A_FILL;
            }
            if (below(4) == 0) {
                oneChange(run % 4 == 1 && below(2) == 0 ? 8 : below(15));
                samePlaces();
            } else {
                oneQuestion(below(20));
            }
        }
        sameMatrix();
        checks.holds("run " + run + " has no more calls than an object may have", calls <= CALLS);
    }

    public static void main(String[] arguments) {
        Checks checks = new Checks();
        for (int run = 0; run < RUNS && checks.failed() == 0; run++) {
            new ModelRunsTests(checks, run).go();
        }
        checks.end("ModelRunsTests");
    }
}
