import com.sun.management.ThreadMXBean;
import java.lang.management.ManagementFactory;

/** All calls of a run live in one room: a new object is small, and no call makes an object. */
public final class RoomTests {
    private static final int CALLS = 512;
    private static final int KINDS = 34;
    private static final long MOST_BYTES_OF_OBJECT = 20000;
    /** Some bytes are the Java machine's own, and those of asking for them. */
    private static final long MOST_BYTES_OF_CALLS = 4000;

    private static long used = 0;

    private static long bytes() {
        return ((ThreadMXBean) ManagementFactory.getThreadMXBean()).getCurrentThreadAllocatedBytes();
    }

    private static PermanentDesk deskOfOnes() {
        PermanentDesk desk = new PermanentDesk();
        desk.clear(7);
        for (int cell = 0; cell < 49; cell++) {
            desk.set(cell / 7, cell % 7, 1);
        }
        return desk;
    }

    private static long call(PermanentDesk desk, int kind, int i) {
        switch (kind) {
            case 0: return desk.clear(i % 7 + 1);
            case 1: return desk.set(i % 7, i % 5, i % 20);
            case 2: return desk.swapRows(i % 7, i % 5);
            case 3: return desk.swapColumns(i % 7, i % 5);
            case 4: return desk.transpose();
            case 5: return desk.multiply(i % 7, i % 9);
            case 6: return desk.add(123456);
            case 7: return desk.type((char) ('0' + i % 10));
            case 8: return desk.clearText();
            case 9: return desk.read();
            case 10: return desk.undo();
            case 11: return desk.keep();
            case 12: return desk.restore();
            case 13: return desk.entry(i % 7, i % 8);
            case 14: return desk.total(i % 10);
            case 15: return desk.lineSum(i % 7, true);
            case 16: return desk.permanent();
            case 17: return desk.determinant();
            case 18: return desk.minor(i % 7, i % 5);
            case 19: return desk.permanentOf(i % 128, i % 128);
            case 20: return desk.sumOf(i % 8);
            case 21: return desk.wholeDiagonals();
            case 22: return desk.wholeDiagonal(i);
            case 23: return desk.diagonalsThrough(i % 7, i % 5);
            case 24: return desk.rooks(i % 8);
            case 25: return desk.tooFew();
            case 26: return desk.best(i % 2 == 0);
            case 27: return desk.nodes(i % 2 == 0);
            case 28: return desk.scaledBits(i % 7, i % 5, 50);
            case 29: return desk.gapBits(50);
            case 30: return desk.boundBits(50);
            case 31: return desk.part(i % 8, true);
            case 32: return desk.parts();
            default: return desk.total(-1);
        }
    }

    private static long bytesOfCalls(int kind) {
        PermanentDesk desk = deskOfOnes();
        long before = bytes();
        for (int i = 0; i < CALLS - 50; i++) {
            used += call(desk, kind, i);
        }
        return bytes() - before;
    }

    private static long bytesOfObjects(int count) {
        long before = bytes();
        for (int i = 0; i < count; i++) {
            used += new PermanentDesk().total(0);
        }
        return bytes() - before;
    }

    public static void main(String[] arguments) {
        Checks checks = new Checks();
        for (int kind = 0; kind < KINDS; kind++) {
            bytesOfCalls(kind);
            long bytes = bytesOfCalls(kind);
            checks.holds("calls of the kind " + kind + " make nothing, yet there were " + bytes + " bytes",
                bytes <= MOST_BYTES_OF_CALLS);
        }
        bytesOfObjects(1);
        long bytes = bytesOfObjects(100) / 100;
        checks.holds("a new object is small, yet it has " + bytes + " bytes", bytes <= MOST_BYTES_OF_OBJECT);
        checks.holds("the answers are used", used != 0);
        checks.end("RoomTests");
    }
}
