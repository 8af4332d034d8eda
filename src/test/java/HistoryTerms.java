/** The sentences of HISTORY. */
final class HistoryTerms extends SentenceGroup {
    HistoryTerms(Checks checks) {
        super(checks);
    }

    @Says(at = "HISTORY", words = "A history of at most 4 states is kept.")
    void atMostFourStatesAreKept() {
        PermanentDesk desk = new PermanentDesk();
        due("states at first", desk.total(7), 0);
        for (int change = 1; change <= 30; change++) {
            desk.set(0, 0, change % 20);
            due("states behind " + change + " changes", desk.total(7), Math.min(change, 4));
        }
        for (int left = 3; left >= 0; left--) {
            due("undo()", desk.undo(), left);
            due("total(7)", desk.total(7), left);
        }
        due("undo()", desk.undo(), NONE);
    }

    @Says(at = "HISTORY", words = "Each call of a method that is described as a change,")
    void eachChangeRecordsTheStateBeforeIt() {
        dueChange("clear", ONE_TO_NINE, desk -> desk.clear(2), "0,0/0,0");
        dueChange("set", ONE_TO_NINE, desk -> desk.set(1, 1, 0), "1,2,3/4,0,6/7,8,9");
        dueChange("swapRows", ONE_TO_NINE, desk -> desk.swapRows(0, 2), "7,8,9/4,5,6/1,2,3");
        dueChange("swapColumns", ONE_TO_NINE, desk -> desk.swapColumns(0, 2), "3,2,1/6,5,4/9,8,7");
        dueChange("transpose", ONE_TO_NINE, desk -> desk.transpose(), "1,4,7/2,5,8/3,6,9");
        dueChange("multiply", ONE_TO_NINE, desk -> desk.multiply(0, -1), "-1,-2,-3/4,5,6/7,8,9");
        dueChange("add", ONE_TO_NINE, desk -> desk.add(201), "1,2,4/5,5,6/7,9,9");
        dueChange("read", ONE_TO_NINE, HistoryTerms::readFive, "5");
        PermanentDesk kept = Desks.of("1,2/3,4");
        kept.keep();
        kept.clear(4);
        due("states", kept.total(7), 2);
        kept.restore();
        due("restore is recorded", kept.total(7), 3);
        due("undo()", kept.undo(), 2);
        dueMatrix("restore that is taken back", kept, Desks.textOfAll(4, 0));
    }

    @Says(at = "HISTORY", words = "described as a change,")
    void whatIsNoChangeRecordsNothing() {
        PermanentDesk desk = Desks.of("1,2/3,4");
        desk.set(0, 0, 9);
        due("type", desk.type('7'), 1);
        due("keep", desk.keep(), 2);
        due("clearText", desk.clearText(), 1);
        due("keep once more", desk.keep(), 2);
        due("two changes are recorded", desk.total(7), 2);
        due("undo", desk.undo(), 1);
        dueMatrix("undo of the change", desk, "1,2/3,4");
        due("undo is not recorded", desk.undo(), 0);
        dueMatrix("undo of the first change", desk, ZEROS);
        due("no state is left", desk.undo(), NONE);
    }

    private static long readFive(PermanentDesk desk) {
        desk.type('5');
        return desk.read();
    }

    @Says(at = "HISTORY", words = "and that returns neither an error nor NONE, records the state before it;")
    void clearReadAndRestoreRecordEvenIfNothingIsUnlike() {
        dueChange("clear to the same", "0,0/0,0", desk -> desk.clear(2), "0,0/0,0");
        dueChange("read of the same", "5", HistoryTerms::readFive, "5");
        dueChange("restore of the same", "1,2/3,4", HistoryTerms::keepAndRestore, "1,2/3,4");
        dueRefused("set to the same", "1,2/3,4", desk -> desk.set(1, 0, 3), NONE);
        dueRefused("swapRows of like ones", "1,2/1,2", desk -> desk.swapRows(0, 1), NONE);
        dueRefused("swapColumns of like ones", "1,1/3,3", desk -> desk.swapColumns(0, 1), NONE);
        dueRefused("transpose to the same", "1,2/2,1", desk -> desk.transpose(), NONE);
        dueRefused("multiply by 1", "1,2/3,4", desk -> desk.multiply(0, 1), NONE);
        dueRefused("multiply of zeros", "0,0/3,4", desk -> desk.multiply(0, -9), NONE);
        dueRefused("restore of nothing", "1,2/3,4", desk -> desk.restore(), NONE);
        dueRefused("clear(8)", "1,2/3,4", desk -> desk.clear(8), OUT_OF_RANGE);
        dueRefused("set(2, 0, 1)", "1,2/3,4", desk -> desk.set(2, 0, 1), UNKNOWN);
        dueRefused("swapRows(0, 2)", "1,2/3,4", desk -> desk.swapRows(0, 2), UNKNOWN);
        dueRefused("swapColumns(0, 2)", "1,2/3,4", desk -> desk.swapColumns(0, 2), UNKNOWN);
        dueRefused("multiply(0, 10)", "1,2/3,4", desk -> desk.multiply(0, 10), OUT_OF_RANGE);
        dueRefused("multiply(1, 6)", "1,2/3,4", desk -> desk.multiply(1, 6), NOT_POSSIBLE);
        dueRefused("add(11)", "1,2/3,4", desk -> desk.add(11), UNKNOWN);
        dueRefused("add(1)", "20,2/3,4", desk -> desk.add(1), NOT_POSSIBLE);
        dueRefused("read of the empty text", "1,2/3,4", desk -> desk.read(), -100);
    }

    private static long keepAndRestore(PermanentDesk desk) {
        desk.keep();
        return desk.restore();
    }

    @Says(at = "HISTORY", words = "if there are 4 already, the oldest one is dropped.")
    void theOldestStateIsDropped() {
        PermanentDesk desk = new PermanentDesk();
        for (int rows = 1; rows <= 7; rows++) {
            desk.clear(rows);
        }
        for (int rows = 6; rows >= 3; rows--) {
            desk.undo();
            due("rows", desk.total(0), rows);
        }
        due("there is no older state", desk.undo(), NONE);
        due("rows", desk.total(0), 3);
        ringOfStates();
    }

    /** Changes and undos in turn, so that each place of a ring would be the oldest one at some time. */
    private void ringOfStates() {
        for (int changes = 1; changes <= 9; changes++) {
            PermanentDesk desk = new PermanentDesk();
            SlowDesk slow = new SlowDesk();
            int value = 0;
            for (int round = 0; round < 12; round++) {
                for (int change = 0; change < changes; change++) {
                    value = value % 20 + 1;
                    due("set to " + value, desk.set(1, 1, value), slow.set(1, 1, value));
                }
                for (int back = 0; back <= round % 6; back++) {
                    due("undo()", desk.undo(), slow.undo());
                    due("entry behind undo()", desk.entry(1, 1), slow.entry(1, 1));
                }
                due("states of round " + round, desk.total(7), slow.total(7));
            }
        }
    }

    @Says(at = "HISTORY", words = "There is one snapshot, empty at first.")
    void thereIsOneSnapshot() {
        PermanentDesk desk = new PermanentDesk();
        due("restore() at first", desk.restore(), NONE);
        desk.clear(2);
        due("restore() behind a change", desk.restore(), NONE);
        desk.keep();
        desk.clear(5);
        desk.keep();
        desk.clear(1);
        due("the later snapshot alone is left", desk.restore(), 5);
        due("and stays", desk.restore(), 5);
        due("another object has none", new PermanentDesk().restore(), NONE);
        for (NamedCall call : NamedCall.all()) {
            if (!call.method().equals("keep")) {
                PermanentDesk kept = Desks.of("1,2/3,4");
                kept.keep();
                call.on(kept);
                due("restore() behind " + call.name(), kept.restore(), 2);
                dueMatrix("restore() behind " + call.name(), kept, "1,2/3,4");
            }
        }
    }

    @Says(at = "HISTORY", words = "The state is the matrix.")
    void theStateIsTheMatrixAlone() {
        PermanentDesk desk = Desks.of("1,2/3,-4");
        desk.keep();
        Desks.typeAll(desk, "5");
        desk.clear(6);
        desk.set(5, 5, 1);
        desk.keep();
        Desks.typeAll(desk, "/");
        desk.undo();
        desk.undo();
        dueMatrix("undo()", desk, "1,2/3,-4");
        due("the text is no part of the state", desk.total(8), 2);
        due("its characters are none either", desk.read(), -101);
        due("the history goes on from there", desk.total(7), 1);
        due("the snapshot is no part of the state", desk.restore(), 6);
        due("it is the matrix", desk.entry(5, 5), 1);
        due("the text is no part of the snapshot", desk.total(8), 2);
        due("the history is no part of the snapshot", desk.total(7), 2);
        due("clearText()", desk.clearText(), 2);
        desk.undo();
        due("an emptied text stays empty", desk.total(8), 0);
        dueMatrix("undo()", desk, "1,2/3,-4");
    }
}
