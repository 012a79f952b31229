/** What the document says of the text, and the promises 2 to 5. */
final class TextBoundaries extends Checks {
    private static final String DIGITS = "0123456789";

    static void test(Sentences s) {
        grammar(s);
        limits(s);
        errorPositions(s);
        endings(s);
        append(s);
        clearText(s);
        errorPosition(s);
        load(s);
        loadForgets(s);
    }

    /** Of all signs just these can stand behind the beginning of a text. */
    private static void dueNext(String beginning, String signs) {
        for (char sign = 0; sign < 256; sign++) {
            int position = write(beginning + sign).errorPosition();
            boolean stands = position != beginning.length();
            if (stands != signs.indexOf(sign) >= 0) {
                fault("the sign with the code " + (int) sign + " behind " + beginning + ": the error "
                        + "position is " + position);
            }
        }
    }

    // ---- what can stand where

    private static void grammar(Sentences s) {
        s.in("TEXT");
        s.holds("A text of the tables is the letter T, table 0, a semicolon, and table 1.", () -> {
            dueNext("", "T");
            dueNext("T", DIGITS + ";");
            dueNext("T;", DIGITS);
            dueError(";", 0);
            dueError("t;", 0);
            dueError("TT;", 1);
            dueError("T;;", 2);
            dueError("T01;02;", 6);
            dueError("T01;02T", 6);
        });
        s.holds("A table is a sequence of rows with / between them, or nothing", () -> {
            dueError("T;", NONE);
            dueError("T01;", NONE);
            dueError("T;01", NONE);
            dueError("T01/02;03/04", NONE);
            dueNext("T01/", DIGITS);
            dueNext("T;01/", DIGITS);
            dueError("T/;", 1);
            dueError("T/01;", 1);
            dueError("T01/;", 4);
            dueError("T01//02;", 4);
            dueError("T;/01", 2);
            dueError("T;01//", 5);
        });
        s.holds("a row is 1 to 6 numbers of two digits each", () -> {
            dueNext("T0", DIGITS);
            dueNext("T01", DIGITS + "/;");
            dueNext("T;01", DIGITS + "/");
            dueNext("T;0", DIGITS);
            dueError("T1;", 2);
            dueError("T1/", 2);
            dueError("T012;", 4);
            dueError("T0123/4;", 7);
            dueError("T010203040506;", NONE);
            dueError("T01020304050607;", 13);
        });
        s.holds("There are no spaces.", () -> {
            for (int k = 0; k <= STAIRS.length(); k++) {
                dueError(STAIRS.substring(0, k) + " " + STAIRS.substring(k), k);
            }
        });
        s.holds("The tables must have the form and the order described above.", () -> {
            dueError("T0101/0101;", NONE);
            dueError("T0101/010101;", 10);
            dueError("T01/01;01/0101", 12);
            dueError("T0201;", 4);
            dueError("T02/01;", 5);
            dueError("T;0203/0202", 10);
            dueError("T99;00", NONE);
        });
    }

    private static void limits(Sentences s) {
        s.holds("The object has a text buffer of at most 160 characters.", () -> {
            SortedTables x = write("T" + "0".repeat(159));
            due("errorPosition() of 160 characters", x.errorPosition(), 13);
            dueState("append to 160 characters", x, o -> o.append('0'));
            due("clearText() of 160 characters", x.clearText(), 160);
            dueError(FULL_PAIR + "    ", FULL_PAIR.length());
            dueError(FULL_PAIR, NONE);
        });
        s.holds("a table has at most 6 rows (a / behind the sixth row cannot stand there)", () -> {
            dueNext("T01/01/01/01/01", "/;");
            dueNext("T01/01/01/01/01/01", ";");
            dueNext("T;01/01/01/01/01", "/");
            dueNext("T;01/01/01/01/01/01", "");
            dueError("T01/01/01/01/01/01;", NONE);
            dueError("T01/01/01/01/01/01/", 18);
            dueError("T01/01/01/01/01/01/01;", 18);
            dueError("T;01/01/01/01/01/01/01", 19);
            dueError(FULL_PAIR + "/", FULL_PAIR.length());
            dueNext("T" + FULL_TABLE, ";");
            dueNext("T;" + FULL_TABLE, "");
        });
    }

    // ---- error positions

    private static void errorPositions(Sentences s) {
        s.holds("The error position is the index of the first character that cannot stand at its "
                + "place", () -> {
                    dueError("x", 0);
                    dueError("xx", 0);
                    dueError("T01x;x", 3);
                    dueError("T02/01;x", 5);
                    dueError("T02/0x;01", 5);
                    dueError("T;0201/x", 5);
                });
        s.holds("The text is read from left to right.", () -> {
            dueError("T0201;x", 4);
            dueError("T01/0102;0201", 6);
            dueError("x;0201", 0);
        });
        s.holds("its first digit if no number that begins with it is great enough, otherwise its "
                + "second digit", () -> {
                    for (int least = 0; least < 100; least++) {
                        for (int number = 0; number < 100; number++) {
                            dueSmallNumber(least, number);
                        }
                    }
                    dueError("T19/1", 5);
                    dueError("T20/1", 4);
                    dueError("T;9/", 3);
                });
        s.holds("for a number that is too small for the cells to its left and above it", () -> {
            dueError("T1020/1520;", NONE);
            dueError("T1020/1519;", 8);
            dueError("T1029/1520;", 9);
            dueError("T1020/3029;", 8);
            dueError("T1020/3530;", 9);
            dueError("T1020/3535;", NONE);
        });
        s.holds("for a row that becomes longer than the one above, or than 6, the first digit behind "
                + "that length, whatever the number is", () -> {
                    for (String number : new String[] {"00", "05", "50", "99", "9", "0"}) {
                        dueError("T01/05" + number, 6);
                        dueError("T0102/03/04" + number, 11);
                        dueError("T010203040506" + number, 13);
                        dueError("T;010203040506" + number, 14);
                        dueError("T000000000000/000000000000" + number, 26);
                    }
                    dueNext("T01/05", "/;");
                    dueNext("T010203040506", "/;");
                    dueNext("T000000000000/000000000000", "/;");
                    dueNext("T;01/05", "/");
                });
    }

    /** The number stands behind the least one, below it, and with it on both sides. */
    private static void dueSmallNumber(int least, int number) {
        String text = twoDigits(least);
        int wrongDigit = number >= least ? NONE : number / 10 * 10 + 9 < least ? 0 : 1;
        String[] beginnings = {"T" + text, "T" + text + "/", "T00" + text + "/00",
            "T0000/" + text, "T;" + text, "T;00" + text + "/" + text};
        for (String beginning : beginnings) {
            String end = beginning.contains(";") ? "" : ";";
            dueError(beginning + twoDigits(number) + end,
                    wrongDigit == NONE ? NONE : beginning.length() + wrongDigit);
        }
    }

    private static void endings(Sentences s) {
        s.holds("if the text ends too soon, it is the length of the text", () -> {
            String table = "010203/0405/06";
            for (int k = 0; k <= table.length(); k++) {
                dueError("T" + table.substring(0, k), k + 1);
            }
            dueError("", 0);
            dueError("T;0", 3);
            dueError("T;01/", 5);
            dueError("T;01/0", 6);
            dueError("T;010", 5);
        });
        s.holds("(A text can end behind any number of table 1, and behind the semicolon.)", () -> {
            for (int k = 0; k <= FULL_TABLE.length(); k++) {
                String beginning = FULL_TABLE.substring(0, k);
                int digits = beginning.length() - beginning.lastIndexOf('/') - 1;
                boolean canEnd = k == 0 || digits > 0 && digits % 2 == 0;
                dueError("T;" + beginning, canEnd ? NONE : k + 2);
                dueError("T" + FULL_TABLE + ";" + beginning,
                        canEnd ? NONE : k + 2 + FULL_TABLE.length());
            }
        });
    }

    // ---- promises

    private static void append(Sentences s) {
        s.in("Promise 2: append");
        s.holds("Appends a character to the text buffer.", () -> {
            SortedTables x = new SortedTables();
            int[] positions = {1, 2, 3, NONE, 5, NONE};
            for (int k = 0; k < positions.length; k++) {
                x.append("T05;06".charAt(k));
                due("errorPosition() of " + "T05;06".substring(0, k + 1), x.errorPosition(),
                        positions[k]);
            }
        });
        s.holds("Returns the new length of the text.", () -> {
            SortedTables x = new SortedTables();
            for (int k = 1; k <= 160; k++) {
                due("append, the " + k + "-th", x.append('T'), k);
            }
            x.clearText();
            due("append to an emptied text", x.append('T'), 1);
        });
        s.holds("`c`: character code, 0 to 255", () -> {
            for (int c = 0; c < 256; c++) {
                SortedTables x = write("T;");
                due("append(" + c + ")", x.append(c), 3);
                due("the error position of code " + c, x.errorPosition(),
                        c >= '0' && c <= '9' ? 3 : 2);
            }
        });
        s.holds("Throws `IllegalArgumentException` if c is out of range",
                () -> dueRange("append", 0, 255, SortedTables::append));
        s.holds("Throws `IllegalStateException` if the text already has 160 characters", () -> {
            for (int length = 150; length <= 160; length++) {
                String text = "T".repeat(length);
                String refused = IllegalStateException.class.getName();
                due("append to " + length, answer(write(text), o -> o.append('0')),
                        length < 160 ? Integer.toString(length + 1) : refused);
            }
            for (int c : new int[] {0, 'T', 255}) {
                dueRefused("append(" + c + ")", IllegalStateException.class,
                        TextBoundaries::busyWithFullText, o -> o.append(c));
            }
            dueRefused("append(256) to a full text", IllegalArgumentException.class,
                    TextBoundaries::busyWithFullText, o -> o.append(256));
            dueRefused("append(-1) to a full text", IllegalArgumentException.class,
                    TextBoundaries::busyWithFullText, o -> o.append(-1));
        });
    }

    private static SortedTables busyWithFullText() {
        SortedTables x = busy();
        x.clearText();
        appendAll(x, FULL_PAIR + "////");
        return x;
    }

    private static void clearText(Sentences s) {
        s.in("Promise 3: clearText");
        s.holds("Empties the text buffer.", () -> {
            SortedTables x = write("T01;");
            x.clearText();
            due("errorPosition() of no text", x.errorPosition(), 0);
            appendAll(x, "T;");
            due("errorPosition() of a shorter text", x.errorPosition(), NONE);
            SortedTables full = busyWithFullText();
            full.clearText();
            due("append after a full text", full.append('T'), 1);
            SortedTables other = busy();
            other.clearText();
            appendAll(other, "T01/02;03");
            due("all there is after clearText()", all(other), all(busy()));
        });
        s.holds("Returns the previous length of the text.", () -> {
            due("clearText() of a new object", new SortedTables().clearText(), 0);
            for (int length : new int[] {1, 2, 159, 160}) {
                SortedTables x = write("T".repeat(length));
                due("clearText() of " + length, x.clearText(), length);
                due("clearText() of nothing", x.clearText(), 0);
            }
        });
    }

    private static void errorPosition(Sentences s) {
        s.in("Promise 4: errorPosition");
        s.holds("Returns the error position of the text; NONE if it is a text of the tables.", () -> {
            due("errorPosition() of a new object", new SortedTables().errorPosition(), 0);
            dueError("T;", NONE);
            dueError(STAIRS, NONE);
            dueError(FULL_PAIR, NONE);
            SortedTables x = write("T");
            due("errorPosition() of T", x.errorPosition(), 1);
            x.append(';');
            due("errorPosition() of T;", x.errorPosition(), NONE);
            x.append('1');
            due("errorPosition() of T;1", x.errorPosition(), 3);
        });
        s.holds("Checks the text.", () -> {
            dueUnchanged("errorPosition()", Checks::busy, SortedTables::errorPosition);
            dueUnchanged("errorPosition() of a wrong text", TextBoundaries::busyWithFullText,
                    SortedTables::errorPosition);
            dueUnchanged("errorPosition() of full tables", () -> busyAndFull(1),
                    SortedTables::errorPosition);
        });
    }

    // ---- load

    private static void load(Sentences s) {
        s.in("Promise 5: load");
        s.holds("Replaces the tables by those of the text.", () -> {
            for (String text : new String[] {"T;", "T01;", "T;01", STAIRS, FULL_PAIR}) {
                SortedTables x = busyAndFull(0);
                x.clearText();
                appendAll(x, text);
                x.load();
                dueTables("load()", x, text);
            }
        });
        s.holds("Returns the number of cells of both tables.", () -> {
            due("load() of no cells", write("T;").load(), 0);
            due("load() of a cell", write("T;00").load(), 1);
            due("load() of a cell in table 0", write("T00;").load(), 1);
            due("load() of full tables", write(FULL_PAIR).load(), 72);
            due("load() of some cells", write(STAIRS).load(), 9);
        });
        s.holds("Keeps the text.", () -> {
            SortedTables x = write(STAIRS);
            x.load();
            due("load() again", x.load(), 9);
            due("errorPosition() after load()", x.errorPosition(), NONE);
            due("append after load()", x.append('/'), STAIRS.length() + 1);
            due("clearText() after load()", x.clearText(), STAIRS.length() + 1);
        });
        s.holds("Throws `IllegalStateException` if the text is not a text of the tables", () -> {
            String[] texts = {"", "T", "t;", "T0", "T01", "T01;0", "T01;02/", "T02/01;", "T;0201",
                "T01/0101;", "T01020304050607;", "T01/01/01/01/01/01/", "T; ", FULL_PAIR + "/"};
            for (String text : texts) {
                dueRefused("load() of " + text, IllegalStateException.class,
                        () -> busyWith(text), SortedTables::load);
            }
        });
    }

    private static SortedTables busyWith(String text) {
        SortedTables x = busy();
        x.clearText();
        appendAll(x, text);
        return x;
    }

    private static void loadForgets(Sentences s) {
        s.holds("Forgets all remembered states and empties both save slots.", () -> {
            SortedTables x = busy();
            x.load();
            dueState("undo() after load()", x, SortedTables::undo);
            dueState("restore(0) after load()", x, o -> o.restore(0));
            dueState("restore(1) after load()", x, o -> o.restore(1));
            x.insert(0, 5);
            due("undo() of what came after load()", x.undo(), 0);
            dueTables("undo() of what came after load()", x, "T01/02;03");
            SortedTables full = busyAndFull(0);
            full.load();
            for (int k = 1; k <= 20; k++) {
                full.exchange();
            }
            due("undo() of the last of 20 actions", full.undo(), 13);
        });
    }
}
