/** The sentences of TEXTS. */
final class TextTerms extends SentenceGroup {
    TextTerms(Checks checks) {
        super(checks);
    }

    @Says(at = "TEXTS", words = "There is a text of at most 100 characters, empty at first.")
    void theTextHoldsUpTo100Characters() {
        PermanentDesk desk = new PermanentDesk();
        due("total(8) at first", desk.total(8), 0);
        due("read() at first", desk.read(), -100);
        due("clearText() at first", desk.clearText(), 0);
        Desks.typeAll(desk, FULL_MATRIX.substring(0, 99));
        due("total(8)", desk.total(8), 99);
        due("the 100th character", desk.type(FULL_MATRIX.charAt(99)), 100);
        due("the 101st character", desk.type('7'), FULL);
        due("total(8)", desk.total(8), 100);
        due("read()", desk.read(), 7);
        dueMatrix("a text of 100 characters", desk, FULL_MATRIX);
        for (NamedCall call : NamedCall.all()) {
            if (!call.method().equals("type") && !call.method().equals("clearText")) {
                PermanentDesk typed = Desks.of("1");
                Desks.typeAll(typed, "1,2/3,4");
                call.on(typed);
                due("total(8) behind " + call.name(), typed.total(8), 7);
                due("read() behind " + call.name(), typed.read(), 2);
                dueMatrix("read() behind " + call.name(), typed, "1,2/3,4");
            }
        }
    }

    @Says(at = "TEXTS", words = "It is a list of one or more rows with \"/\" between two.")
    void rowsHaveSlashesBetween() {
        dueRead("5", 1);
        dueRead("1,2/3,4", 2);
        for (int rows = 1; rows <= 7; rows++) {
            dueRead(Desks.textOfAll(rows, 3), rows);
        }
        dueFault("", 0);
        dueLastIsFault("/");
        dueLastIsFault("1,2//");
        dueLastIsFault("1,2/3,4/");
        dueFault("/1,2/3,4", 0);
        dueFault("1,2//3,4", 4);
        for (char other : new char[] {';', '|', '\\', '\n', ' ', ':', '.', '0', 256 + '/', 65535}) {
            dueFault("1,20" + other + "3,4", 4);
        }
        dueEndsTooEarly("1,2/");
    }

    @Says(at = "TEXTS", words = "A row is a list of one or more entries with \",\" between two;")
    void entriesHaveCommasBetween() {
        dueLastIsFault(",");
        dueLastIsFault("1,,");
        dueLastIsFault("1,/");
        dueLastIsFault("1,2/,");
        dueLastIsFault("1,2/3,,");
        dueFault("1,,2", 2);
        dueFault("1,2,/3,4", 4);
        for (char other : new char[] {';', ' ', '.', '+', '-', 'x', '\t', 0, 256 + ',', 65535}) {
            dueFault("1" + other + "2/3,4", 1);
            dueFault("1,2/3" + other + "4", 5);
        }
        dueEndsTooEarly("1,");
        dueEndsTooEarly("1,2/3,");
    }

    @Says(at = "TEXTS", words = "all rows have as many entries as there are rows.")
    void theMatrixOfATextIsSquare() {
        for (int rows = 2; rows <= 7; rows++) {
            dueEndsTooEarly(Desks.rowOf(rows, 1));
            dueEndsTooEarly(Desks.rowsOf(rows - 1, rows, 1));
            dueEndsTooEarly(Desks.rowsOf(rows - 1, rows, 1) + "/" + Desks.rowOf(rows - 1, 1));
            dueRead(Desks.rowsOf(rows - 1, rows, 1) + "/" + Desks.rowOf(rows, 1), rows);
        }
        dueEndsTooEarly("1,2,3/4,5,6");
        dueLastIsFault("1/");
        dueFault("1/2", 1);
        dueFault("1,2/3,4/5,6", 7);
        dueFault("1,2,3/4,5/6,7", 9);
    }

    @Says(at = "TEXTS", words = "An entry is a number from -20 to 20:")
    void anEntryOfATextIsFromMinus20To20() {
        for (int entry = -20; entry <= 20; entry++) {
            dueRead(Integer.toString(entry), 1);
            dueRead("1,2/" + entry + "," + entry, 2);
        }
        for (int entry = 21; entry <= 120; entry++) {
            int digit = entry < 100 ? 1 : 2;
            dueFault(Integer.toString(entry), digit);
            dueFault("-" + entry, digit + 1);
        }
        dueFault("1.5", 1);
        dueFault("1e1", 1);
    }

    @Says(at = "TEXTS", words = "perhaps \"-\",")
    void onlyOneMinusCanBeAheadOfANumber() {
        dueRead("-7", 1);
        dueRead("-1,2/3,-4", 2);
        dueLastIsFault("--");
        dueFault("--1", 1);
        dueFault("+1", 0);
        dueFault("1-", 1);
        dueFault("-/", 1);
        dueFault("-,", 1);
        dueFault("- 1", 1);
        dueFault("1,2/3,--4", 7);
        dueFault("1,2/3,+4", 6);
        dueEndsTooEarly("-");
        dueEndsTooEarly("1,-");
        dueEndsTooEarly("1,2/3,-");
    }

    @Says(at = "TEXTS", words = "then a number without zeros ahead of other digits;")
    void noZeroIsAheadOfOtherDigits() {
        dueRead("0", 1);
        dueRead("10", 1);
        dueRead("-10", 1);
        dueRead("0,0/0,20", 2);
        for (char digit = '0'; digit <= '9'; digit++) {
            dueLastIsFault("0" + digit);
            dueLastIsFault("1,2/3,0" + digit);
        }
        dueFault("007", 1);
        dueFault("x", 0);
        dueFault(" 1", 0);
        // Digits of other writings, and characters that would be digits if a cast cut them.
        for (char odd : new char[] {0x661, 0xff11, 256 + '1', 0x4e00 + '1', '/', ':', 'a', 0xb9}) {
            dueFault(odd + "1", 0);
            dueFault("-" + odd, 1);
        }
        for (char odd : new char[] {0x661, 0xff11, 256 + '1', ':', 'a', 0xb9}) {
            dueFault("1" + odd, 1);
        }
    }

    @Says(at = "TEXTS", words = "a \"0\" behind \"-\" is not allowed,")
    void noZeroIsBehindAMinus() {
        dueLastIsFault("-0");
        dueFault("-01", 1);
        dueFault("-00", 1);
        dueFault("1,2/3,-0", 7);
        dueFault("-0,1/2,3", 1);
        dueRead("-10,-20/10,20", 2);
    }

    @Says(at = "TEXTS",
        words = "and neither is a digit by which the number would be greater than 20 without its sign.")
    void noDigitMakesANumberGreaterThan20() {
        for (String number : new String[] {"21", "29", "30", "31", "90", "99", "-21", "-30", "-99", "100", "199", "200",
            "-100", "-200", "109", "-209"}) {
            dueLastIsFault(number);
            dueLastIsFault("1,2/3," + number);
        }
        // Numbers that wrap around at 8, 16, 32 or 64 bits.
        dueFault("257", 1);
        dueFault("-4294967295", 2);
        dueFault("4294967297", 1);
        dueFault("10000000000000000000000000000000", 2);
        dueFault("18446744073709551617", 2);
        dueFault("2147483649", 1);
    }

    @Says(at = "TEXTS",
        words = "The fault of the text is the index, from 0, of the first character that is not allowed at its"
            + " place,")
    void theFaultIsTheFirstCharacterThatIsNotAllowed() {
        dueFault("x", 0);
        dueFault("x-0", 0);
        dueFault("1,x,y", 2);
        dueFault("1,,2x", 2);
        dueFault("1,2/3,4x", 7);
        dueFault("1,2/3,4/5,6x", 7);
        dueFault("1,2/x/y", 4);
        dueFault("-05", 1);
        dueFault("1021", 2);
        for (int place = 0; place < FULL_MATRIX.length(); place++) {
            dueFault(FULL_MATRIX.substring(0, place) + "?" + FULL_MATRIX.substring(place + 1), place);
        }
    }

    @Says(at = "TEXTS", words = "or the length of the text if it ends too early (the empty text does).")
    void theFaultOfATextThatEndsTooEarlyIsItsLength() {
        dueEndsTooEarly("");
        dueEndsTooEarly("-");
        for (int length = 0; length < FULL_MATRIX.length(); length++) {
            // A row of digits that is cut is a row that can go on, and so is what is cut behind a "-".
            boolean isWhole = length == 1 || length == 2;
            if (!isWhole) {
                dueEndsTooEarly(FULL_MATRIX.substring(0, length));
            }
        }
        dueEndsTooEarly("10,10,10,10,10,10,10/".repeat(5).substring(0, 100));
        dueEndsTooEarly("-10,-10,-10,-10,-10,-10,-10/".repeat(4).substring(0, 100));
    }

    @Says(at = "TEXTS",
        words = "With the first row the number of rows is known: an eighth entry in it is not allowed (the \",\""
            + " ahead of it),")
    void theFirstRowHasNoEighthEntry() {
        for (int entries = 1; entries <= 6; entries++) {
            dueEndsTooEarly(Desks.rowOf(entries, 1) + ",");
        }
        dueLastIsFault("1,2,3,4,5,6,7,");
        dueFault("1,2,3,4,5,6,7,8", 13);
        dueFault("1,2,3,4,5,6,7,x", 13);
        dueFault("10,10,10,10,10,10,-10,1", 21);
        dueEndsTooEarly("1,2,3,4,5,6,7");
        dueEndsTooEarly("1,2,3,4,5,6,7/");
    }

    @Says(at = "TEXTS", words = "nor is a \",\" or a \"/\" by which there would be more entries or rows,")
    void noRowAndNoEntryIsTooMany() {
        for (int rows = 1; rows <= 7; rows++) {
            String matrix = Desks.textOfAll(rows, 1);
            dueRead(matrix, rows);
            dueLastIsFault(matrix + "/");
            dueFault(matrix + "/1", matrix.length());
            for (int row = 2; row <= rows; row++) {
                String begun = Desks.rowsOf(row, rows, 1);
                dueLastIsFault(begun + ",");
                dueFault(begun + ",1", begun.length());
            }
        }
        dueLastIsFault("20/");
        dueLastIsFault("-20/");
    }

    @Says(at = "TEXTS", words = "nor a \"/\" behind a row that is too short.")
    void noSlashIsBehindAShortRow() {
        for (int rows = 2; rows <= 7; rows++) {
            for (int row = 1; row < rows; row++) {
                String begun = Desks.rowsOf(row, rows, 1);
                for (int entries = 1; entries < rows; entries++) {
                    dueLastIsFault(begun + "/" + Desks.rowOf(entries, 1) + "/");
                }
            }
        }
        dueFault("1,2/3/4", 5);
        dueFault("1,2/3/4,5", 5);
    }
}
