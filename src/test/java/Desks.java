/** Ways to make desks, and to tell what they hold. */
final class Desks {
    private Desks() {
    }

    /** A desk whose matrix is that of the text, which is empty then; the history holds one state. */
    static PermanentDesk of(String matrix) {
        PermanentDesk desk = new PermanentDesk();
        typeAll(desk, matrix);
        desk.read();
        desk.clearText();
        return disturbed(desk);
    }

    /** The last thing that it did is a change that was taken back: no later change may begin with what that left. */
    static PermanentDesk disturbed(PermanentDesk desk) {
        desk.clear(1 + desk.total(0) % 7);
        desk.undo();
        return desk;
    }

    static PermanentDesk ofAll(int rows, int entry) {
        PermanentDesk desk = new PermanentDesk();
        desk.clear(rows);
        for (int r = 0; r < rows; r++) {
            for (int c = 0; c < rows; c++) {
                desk.set(r, c, entry);
            }
        }
        return disturbed(desk);
    }

    /** A matrix of zeros with ones on a diagonal. */
    static PermanentDesk ofDiagonal(int rows, int diagonal) {
        PermanentDesk desk = new PermanentDesk();
        desk.clear(rows);
        desk.add(diagonal);
        return disturbed(desk);
    }

    /** Ones in the first row and the first column alone, so that there is no whole diagonal from 3 rows on. */
    static PermanentDesk crossOf(int rows) {
        PermanentDesk desk = new PermanentDesk();
        desk.clear(rows);
        for (int i = 0; i < rows; i++) {
            desk.set(0, i, 1);
            desk.set(i, 0, 1);
        }
        return disturbed(desk);
    }

    static SlowDesk slowOf(String matrix) {
        SlowDesk desk = new SlowDesk();
        for (int i = 0; i < matrix.length(); i++) {
            desk.type(matrix.charAt(i));
        }
        desk.read();
        return desk;
    }

    /** The slow desk that has the same matrix. */
    static SlowDesk slowOf(PermanentDesk desk) {
        SlowDesk slow = new SlowDesk();
        int rows = desk.total(0);
        slow.clear(rows);
        for (int r = 0; r < rows; r++) {
            for (int c = 0; c < rows; c++) {
                slow.set(r, c, desk.entry(r, c));
            }
        }
        return slow;
    }

    static void typeAll(PermanentDesk desk, String text) {
        for (int i = 0; i < text.length(); i++) {
            desk.type(text.charAt(i));
        }
    }

    /** The matrix as a text that could be read. */
    static String matrix(PermanentDesk desk) {
        StringBuilder text = new StringBuilder();
        int rows = desk.total(0);
        for (int r = 0; r < rows; r++) {
            for (int c = 0; c < rows; c++) {
                text.append(c > 0 ? "," : r > 0 ? "/" : "").append(desk.entry(r, c));
            }
        }
        return text.toString();
    }

    /** The text of a matrix that has the same entry everywhere. */
    static String textOfAll(int rows, int entry) {
        return rowsOf(rows, rows, entry);
    }

    static String rowOf(int entries, int entry) {
        return ("," + entry).repeat(entries).substring(1);
    }

    /** The first rows of a text. */
    static String rowsOf(int rows, int entries, int entry) {
        return ("/" + rowOf(entries, entry)).repeat(rows).substring(1);
    }

    /** What tells matrices apart by fewer calls than all their entries. */
    private static String brief(PermanentDesk desk) {
        StringBuilder all = new StringBuilder();
        for (int what = 0; what <= 6; what++) {
            all.append(desk.total(what)).append(' ');
        }
        for (int line = 0; line < desk.total(0); line++) {
            all.append(desk.lineSum(line, false)).append(' ').append(desk.lineSum(line, true)).append(' ');
        }
        return all.append(desk.permanent()).append(' ').append(desk.determinant()).toString();
    }

    /** What calls can tell of the state of a desk, its history, text and snapshot. It uses the desk up. */
    static String portrait(PermanentDesk desk) {
        StringBuilder all = new StringBuilder(matrix(desk));
        all.append(" states ").append(desk.total(7)).append(" text ").append(desk.total(8));
        for (int i = 0; i < 5; i++) {
            all.append(" undo ").append(desk.undo()).append(' ').append(brief(desk));
        }
        all.append(" restore ").append(desk.restore()).append(' ').append(brief(desk));
        all.append(" read ").append(desk.read()).append(' ').append(brief(desk));
        all.append(" type ").append(desk.type('/')).append(" read ").append(desk.read());
        return all.toString();
    }
}
