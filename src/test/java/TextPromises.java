/** The sentences of the promises 9 to 14: texts and history. */
final class TextPromises extends SentenceGroup {
    TextPromises(Checks checks) {
        super(checks);
    }

    // ---- type

    @Says(at = "Promise 9", words = "Appends a character to the text.")
    void typeAppendsACharacter() {
        PermanentDesk desk = new PermanentDesk();
        desk.type('1');
        due("1", desk.read(), 1);
        desk.type('2');
        due("12", desk.read(), 1);
        due("12", desk.entry(0, 0), 12);
        Desks.typeAll(desk, ",-3/4,5");
        due("12,-3/4,5", desk.read(), 2);
        dueMatrix("12,-3/4,5", desk, "12,-3/4,5");
        due("only read is a change", desk.total(7), 3);
    }

    @Says(at = "Promise 9", words = "`character`: any character")
    void typeTakesAnyCharacter() {
        PermanentDesk desk = new PermanentDesk();
        char[] odd = {0, 1, '\n', ' ', '~', 127, 128, 233, 255, 256, 0x661, 0xd800, 0xdfff, 0xfffe, 0xffff, '7'};
        for (int i = 0; i < odd.length; i++) {
            due("type((char) " + (int) odd[i] + ")", desk.type(odd[i]), i + 1);
            due("total(8)", desk.total(8), i + 1);
        }
        due("read()", desk.read(), -100);
        due("clearText()", desk.clearText(), odd.length);
    }

    @Says(at = "Promise 9", words = "Returns the length of the text then;")
    void typeTellsTheLength() {
        PermanentDesk desk = new PermanentDesk();
        for (int length = 1; length <= 100; length++) {
            due("type", desk.type('/'), length);
        }
        desk.clearText();
        due("type behind clearText()", desk.type('/'), 1);
    }

    @Says(at = "Promise 9", words = "FULL if it has 100 characters.")
    void typeIsRefusedIfThereAre100Characters() {
        PermanentDesk desk = new PermanentDesk();
        Desks.typeAll(desk, FULL_MATRIX.substring(0, 98));
        due("the 99th", desk.type(FULL_MATRIX.charAt(98)), 99);
        due("the 100th", desk.type(FULL_MATRIX.charAt(99)), 100);
        for (int more = 0; more < 30; more++) {
            due("one more", desk.type((char) ('0' + more)), FULL);
        }
        due("total(8)", desk.total(8), 100);
        due("read()", desk.read(), 7);
        dueMatrix("the text is as it was", desk, FULL_MATRIX);
        due("clearText()", desk.clearText(), 100);
        due("there is room again", desk.type('1'), 1);
    }

    // ---- clearText

    @Says(at = "Promise 10", words = "Empties the text.")
    void clearTextLeavesNothing() {
        PermanentDesk desk = new PermanentDesk();
        Desks.typeAll(desk, "1,2/3,4");
        desk.clearText();
        due("total(8)", desk.total(8), 0);
        due("read()", desk.read(), -100);
        due("total(7)", desk.total(7), 0);
        desk.type('7');
        due("read()", desk.read(), 1);
        dueMatrix("one character behind seven", desk, "7");
    }

    @Says(at = "Promise 10", words = "Returns the length that it had.")
    void clearTextTellsTheLength() {
        for (int length = 0; length <= 110; length++) {
            PermanentDesk desk = new PermanentDesk();
            Desks.typeAll(desk, "x".repeat(length));
            due("clearText()", desk.clearText(), Math.min(length, 100));
            due("clearText() once more", desk.clearText(), 0);
        }
    }

    // ---- read

    @Says(at = "Promise 11", words = "Makes the matrix that of the text, which stays.")
    void readMakesTheMatrixThatOfTheText() {
        String[] texts = {"0", "5", "-7", "20", "-20", "10", "1,2/3,4", "0,0/0,0", "-1,20/-20,0", ONE_TO_NINE,
            "1,1,1,1,1,1,1/".repeat(6) + "2,3,4,5,6,7,8", "9,8/7,6", FULL_MATRIX, "3"};
        PermanentDesk many = new PermanentDesk();
        for (String text : texts) {
            dueRead(text, text.split("/").length);
            many.clearText();
            Desks.typeAll(many, text);
            many.read();
            Desks.disturbed(many);
            dueText("one text behind another", Desks.matrix(many), text);
            if (many.type('x') != FULL) {
                due("a fault behind another text", many.read(), -100 - text.length());
            }
            many = many.total(8) > 90 ? new PermanentDesk() : many;
        }
    }

    @Says(at = "Promise 11", words = "This is a change.")
    void readIsAChange() {
        dueChange("read()", ONE_TO_NINE, TextPromises::readTwoRows, "1,2/3,4");
        dueChange("read() of the same", "1,2/3,4", TextPromises::readTwoRows, "1,2/3,4");
        PermanentDesk again = new PermanentDesk();
        again.type('9');
        due("read()", again.read(), 1);
        due("read() once more", again.read(), 1);
        due("both are recorded", again.total(7), 2);
    }

    private static long readTwoRows(PermanentDesk desk) {
        Desks.typeAll(desk, "1,2/3,4");
        return desk.read();
    }

    @Says(at = "Promise 11", words = "Returns how many rows it has;")
    void readTellsHowManyRowsThereAre() {
        for (int rows = 1; rows <= 7; rows++) {
            PermanentDesk desk = Desks.ofAll(8 - rows, 1);
            Desks.typeAll(desk, Desks.textOfAll(rows, 2));
            due("read()", desk.read(), rows);
            due("total(0)", desk.total(0), rows);
        }
    }

    @Says(at = "Promise 11", words = "-100 minus the fault of the text if it has one (this is an error).")
    void readOfAFaultIsRefused() {
        dueRead("", -100);
        dueRead("x", -100);
        dueRead("1x", -101);
        dueRead("1,2", -103);
        dueRead("1,2/3,4/", -107);
        dueRead("1,2,3,4,5,6,7,8", -113);
        dueRead(FULL_MATRIX.substring(0, 99) + "x", -199);
        dueRead("10,10,10,10,10,10,10/".repeat(5).substring(0, 100), -200);
        PermanentDesk desk = Desks.of(Desks.textOfAll(7, 3));
        desk.clearText();
        Desks.typeAll(desk, "1,2/3,x");
        due("read() of a fault in the last entry", desk.read(), -106);
        dueMatrix("read() of a fault in the last entry", desk, Desks.textOfAll(7, 3));
        due("it is not recorded", desk.total(7), 1);
        due("the text stays", desk.total(8), 7);
    }

    // ---- undo

    @Says(at = "Promise 12", words = "Restores the latest state of the history, and removes it from there.")
    void undoRestoresTheLatestState() {
        PermanentDesk desk = Desks.of(ONE_TO_NINE);
        desk.clear(5);
        desk.set(4, 4, -20);
        desk.clear(1);
        desk.undo();
        due("undo()", desk.entry(4, 4), -20);
        due("rows", desk.total(0), 5);
        desk.undo();
        dueMatrix("undo() once more", desk, Desks.textOfAll(5, 0));
        desk.undo();
        dueMatrix("undo() a third time", desk, ONE_TO_NINE);
        due("all are removed but one", desk.total(7), 1);
        desk.set(0, 0, 9);
        desk.undo();
        dueMatrix("a change behind undo() is taken back alone", desk, ONE_TO_NINE);
        desk.undo();
        dueMatrix("the state of a new object", desk, ZEROS);
    }

    @Says(at = "Promise 12", words = "Returns how many states are left;")
    void undoTellsHowManyStatesAreLeft() {
        for (int changes = 1; changes <= 9; changes++) {
            PermanentDesk desk = new PermanentDesk();
            for (int change = 1; change <= changes; change++) {
                desk.set(0, 0, change);
            }
            for (int left = Math.min(changes, 4) - 1; left >= 0; left--) {
                due("undo()", desk.undo(), left);
                due("total(7)", desk.total(7), left);
            }
        }
    }

    @Says(at = "Promise 12", words = "NONE if the history is empty.")
    void undoWithoutAStateIsNone() {
        PermanentDesk desk = new PermanentDesk();
        due("undo()", desk.undo(), NONE);
        due("undo()", desk.undo(), NONE);
        due("total(7)", desk.total(7), 0);
        desk.set(0, 0, 3);
        due("undo()", desk.undo(), 0);
        due("undo()", desk.undo(), NONE);
        dueMatrix("undo() of nothing", desk, ZEROS);
        due("a change is recorded behind it", desk.set(0, 0, 4), 0);
        due("total(7)", desk.total(7), 1);
        desk.set(0, 0, 5);
        desk.set(0, 0, 6);
        desk.set(0, 0, 7);
        desk.set(0, 0, 8);
        for (int left = 3; left >= 0; left--) {
            due("undo()", desk.undo(), left);
        }
        due("undo()", desk.undo(), NONE);
        due("the oldest one was dropped", desk.entry(0, 0), 4);
    }

    // ---- keep and restore

    @Says(at = "Promise 13", words = "Takes a snapshot of the state, in place of an earlier one.")
    void keepTakesASnapshot() {
        PermanentDesk desk = Desks.of("1,2/3,-4");
        desk.keep();
        due("keep is no change", desk.total(7), 1);
        dueMatrix("keep()", desk, "1,2/3,-4");
        desk.set(0, 0, 9);
        desk.swapRows(0, 1);
        desk.undo();
        desk.clear(5);
        desk.restore();
        dueMatrix("the snapshot is a copy", desk, "1,2/3,-4");
        desk.clear(6);
        desk.keep();
        desk.undo();
        desk.restore();
        dueMatrix("the later snapshot", desk, Desks.textOfAll(6, 0));
    }

    @Says(at = "Promise 13", words = "Returns how many rows there are.")
    void keepTellsHowManyRowsThereAre() {
        for (int rows = 1; rows <= 7; rows++) {
            PermanentDesk desk = new PermanentDesk();
            desk.keep();
            desk.clear(rows);
            due("keep()", desk.keep(), rows);
            due("keep() once more", desk.keep(), rows);
        }
    }

    @Says(at = "Promise 14", words = "Restores the state of the snapshot, which stays.")
    void restoreRestoresTheSnapshot() {
        PermanentDesk desk = Desks.of("1,2/3,4");
        desk.keep();
        for (int round = 0; round < 3; round++) {
            desk.clear(7);
            desk.set(6, 6, 1);
            desk.restore();
            dueMatrix("restore()", desk, "1,2/3,4");
            desk.set(1, 1, 20 - round);
            desk.restore();
            dueMatrix("restore() behind a change of what was restored", desk, "1,2/3,4");
        }
        desk.undo();
        due("undo()", desk.entry(1, 1), 18);
    }

    @Says(at = "Promise 14", words = "This is a change.")
    void restoreIsAChange() {
        PermanentDesk desk = Desks.of("1,2/3,4");
        desk.keep();
        desk.clear(7);
        desk.restore();
        due("restore() is recorded", desk.total(7), 3);
        desk.restore();
        due("restore() of the same is recorded", desk.total(7), 4);
        due("undo()", desk.undo(), 3);
        dueMatrix("undo()", desk, "1,2/3,4");
        due("undo()", desk.undo(), 2);
        dueMatrix("undo() once more", desk, Desks.textOfAll(7, 0));
    }

    @Says(at = "Promise 14", words = "Returns how many rows there are then;")
    void restoreTellsHowManyRowsThereAre() {
        for (int rows = 1; rows <= 7; rows++) {
            PermanentDesk desk = new PermanentDesk();
            desk.clear(rows);
            desk.keep();
            desk.clear(8 - rows);
            due("restore()", desk.restore(), rows);
            due("total(0)", desk.total(0), rows);
        }
    }

    @Says(at = "Promise 14", words = "NONE if there is no snapshot.")
    void restoreWithoutASnapshotIsNone() {
        due("restore() of a new object", new PermanentDesk().restore(), NONE);
        dueRefused("restore()", "1,2/3,4", desk -> desk.restore(), NONE);
        PermanentDesk desk = Desks.of("1,2/3,4");
        desk.restore();
        desk.keep();
        due("restore() behind keep()", desk.restore(), 2);
    }
}
