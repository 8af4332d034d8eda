import java.util.List;
import java.util.function.Supplier;

/** Desks in unlike states, each as a way to make one: with all that a call could spoil, and with none of it. */
final class States {
    private States() {
    }

    static List<Supplier<PermanentDesk>> all() {
        return List.of(PermanentDesk::new, States::ofAllKinds, States::ofFewStates, States::ofGreatEntries,
            States::ofLikeLines, States::ofSevenRows, States::ofOneRow, States::ofZeros);
    }

    /** Four states of unlike sizes, of more that there were; a snapshot of another size; and a text without a fault. */
    private static PermanentDesk ofAllKinds() {
        PermanentDesk desk = new PermanentDesk();
        desk.clear(5);
        desk.keep();
        desk.add(43210);
        desk.clear(2);
        desk.set(0, 0, 7);
        desk.clear(3);
        desk.set(2, 1, -3);
        Desks.typeAll(desk, "1,2/3,4");
        return desk;
    }

    /** Two states, no snapshot, and a text whose last character alone is its fault. */
    private static PermanentDesk ofFewStates() {
        PermanentDesk desk = Desks.of("5,0,1/0,6,0/0,0,6");
        desk.set(1, 1, 4);
        Desks.typeAll(desk, "1,2/3,4,5");
        return desk;
    }

    /** Entries that can't be greater, and a full text without a fault. */
    private static PermanentDesk ofGreatEntries() {
        PermanentDesk desk = Desks.of("20,20/20,-20");
        desk.keep();
        Desks.typeAll(desk, SentenceGroup.FULL_MATRIX);
        return desk;
    }

    /** Nothing is unlike behind an exchange, but for the history. */
    private static PermanentDesk ofLikeLines() {
        PermanentDesk desk = Desks.of("2,2,2/2,2,2/2,2,2");
        desk.keep();
        desk.clear(2);
        desk.restore();
        return desk;
    }

    /** The greatest matrix, with four states, and a full text that ends too early. */
    private static PermanentDesk ofSevenRows() {
        PermanentDesk desk = Desks.ofAll(7, -20);
        desk.set(6, 6, -19);
        desk.keep();
        Desks.typeAll(desk, "10,10,10,10,10,10,10/".repeat(5));
        return desk;
    }

    private static PermanentDesk ofOneRow() {
        PermanentDesk desk = Desks.of("20");
        Desks.typeAll(desk, "-");
        return desk;
    }

    /** The history has been emptied by undo alone. */
    private static PermanentDesk ofZeros() {
        PermanentDesk desk = Desks.of("1,2/3,4");
        desk.keep();
        desk.undo();
        return desk;
    }
}
