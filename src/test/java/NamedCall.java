import java.util.ArrayList;
import java.util.List;

/** Calls of all methods of the face, with arguments on both sides of each limit. */
record NamedCall(String method, String arguments, boolean isQuestion, Call call) {
    private static final int[] LINES = {-1, 0, 1, 2, 3, 6, 7, 32, Integer.MIN_VALUE, Integer.MAX_VALUE};
    private static final int[] SMALL = {-1, 0, 1, 2, 3, 6, 7, 8, Integer.MIN_VALUE, Integer.MAX_VALUE};
    private static final int[] ENTRIES = {-21, -20, -1, 0, 1, 20, 21};
    private static final int[] FACTORS = {-10, -9, -1, 0, 1, 2, 9, 10};
    private static final int[] NUMBERS = {-1, 0, 1, 2, 10, 11, 12, 120, 1012, 123456, 6543210, 6543211};
    private static final int[] SETS = {0, 1, 3, 7, 8, 64, 127, 128, -1, Integer.MIN_VALUE};
    private static final int[] SWEEPS = {-1, 0, 1, 50, 51};

    private static final List<NamedCall> ALL = all(new ArrayList<>());

    static List<NamedCall> all() {
        return ALL;
    }

    String name() {
        return method + "(" + arguments + ")";
    }

    long on(PermanentDesk desk) {
        return call.on(desk);
    }

    private static List<NamedCall> all(List<NamedCall> calls) {
        addChanges(calls);
        addOthers(calls);
        addQuestions(calls);
        addQuestionsAtPlaces(calls);
        return calls;
    }

    private static void change(List<NamedCall> calls, String method, String arguments, Call call) {
        calls.add(new NamedCall(method, arguments, false, call));
    }

    private static void question(List<NamedCall> calls, String method, String arguments, Call call) {
        calls.add(new NamedCall(method, arguments, true, call));
    }

    private static void addChanges(List<NamedCall> calls) {
        for (int a : LINES) {
            change(calls, "clear", "" + a, desk -> desk.clear(a));
            for (int b : LINES) {
                change(calls, "swapRows", a + ", " + b, desk -> desk.swapRows(a, b));
                change(calls, "swapColumns", a + ", " + b, desk -> desk.swapColumns(a, b));
                for (int entry : ENTRIES) {
                    change(calls, "set", a + ", " + b + ", " + entry, desk -> desk.set(a, b, entry));
                }
            }
            for (int factor : FACTORS) {
                change(calls, "multiply", a + ", " + factor, desk -> desk.multiply(a, factor));
            }
        }
        change(calls, "transpose", "", desk -> desk.transpose());
        for (int number : NUMBERS) {
            change(calls, "add", "" + number, desk -> desk.add(number));
        }
    }

    private static void addOthers(List<NamedCall> calls) {
        change(calls, "type", "'1'", desk -> desk.type('1'));
        change(calls, "clearText", "", desk -> desk.clearText());
        change(calls, "read", "", desk -> desk.read());
        change(calls, "undo", "", desk -> desk.undo());
        change(calls, "keep", "", desk -> desk.keep());
        change(calls, "restore", "", desk -> desk.restore());
    }

    private static void addQuestions(List<NamedCall> calls) {
        for (int what = -1; what <= 9; what++) {
            int number = what;
            question(calls, "total", "" + what, desk -> desk.total(number));
        }
        for (int k : SMALL) {
            question(calls, "sumOf", "" + k, desk -> desk.sumOf(k));
            question(calls, "rooks", "" + k, desk -> desk.rooks(k));
            question(calls, "wholeDiagonal", "" + k, desk -> desk.wholeDiagonal(k));
            addQuestionsOfKind(calls, k, true);
            addQuestionsOfKind(calls, k, false);
        }
        for (int sweeps : SWEEPS) {
            question(calls, "gapBits", "" + sweeps, desk -> desk.gapBits(sweeps));
            question(calls, "boundBits", "" + sweeps, desk -> desk.boundBits(sweeps));
        }
        question(calls, "permanent", "", desk -> desk.permanent());
        question(calls, "determinant", "", desk -> desk.determinant());
        question(calls, "wholeDiagonals", "", desk -> desk.wholeDiagonals());
        question(calls, "tooFew", "", desk -> desk.tooFew());
        question(calls, "parts", "", desk -> desk.parts());
    }

    private static void addQuestionsOfKind(List<NamedCall> calls, int k, boolean is) {
        question(calls, "lineSum", k + ", " + is, desk -> desk.lineSum(k, is));
        question(calls, "part", k + ", " + is, desk -> desk.part(k, is));
        if (k == 0) {
            question(calls, "best", "" + is, desk -> desk.best(is));
            question(calls, "nodes", "" + is, desk -> desk.nodes(is));
        }
    }

    private static void addQuestionsAtPlaces(List<NamedCall> calls) {
        for (int a : LINES) {
            for (int b : LINES) {
                String place = a + ", " + b;
                question(calls, "entry", place, desk -> desk.entry(a, b));
                question(calls, "minor", place, desk -> desk.minor(a, b));
                question(calls, "diagonalsThrough", place, desk -> desk.diagonalsThrough(a, b));
                for (int sweeps : SWEEPS) {
                    question(calls, "scaledBits", place + ", " + sweeps, desk -> desk.scaledBits(a, b, sweeps));
                }
            }
        }
        for (int a : SETS) {
            for (int b : SETS) {
                question(calls, "permanentOf", a + ", " + b, desk -> desk.permanentOf(a, b));
            }
        }
    }
}
