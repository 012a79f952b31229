/** Each promise of the document: ordinary calls, the edges that it names, and wrong arguments. */
public final class PromiseTests extends Checks {
    public static void main(String[] args) {
        newObject();
        appendCharacters();
        clearTheText();
        checkTheText();
        checkNumbersOfTheText();
        checkShapesOfTheText();
        loadTables();
        tellAbout();
        readCells();
        measureRowsAndColumns();
        insertNumbers();
        removeCells();
        changeNumbers();
        transferCells();
        transposeTables();
        exchangeTables();
        undoActions();
        rememberFourteenStates();
        countNumbers();
        walkAlong();
        findKthCells();
        rankCells();
        countWindows();
        findKthOfWindows();
        findKthOfBoth();
        countPairs();
        findKthSums();
        findCornersAndGaps();
        measureHooks();
        countFillings();
        findGreatestPaths();
        askIfInserted();
        askIfRemoved();
        runScripts();
        runScriptsThatFail();
        simulateRounds();
        saveTables();
        restoreTables();
        endWith("all promises hold");
    }

    // ---- 1 to 5

    private static void newObject() {
        SortedTables x = new SortedTables();
        due("NONE", SortedTables.NONE, -9);
        dueTables("new", x, "T;");
        due("clearText() of a new object", x.clearText(), 0);
        dueState("undo() of a new object", x, SortedTables::undo);
        dueState("restore(0) of a new object", x, o -> o.restore(0));
        dueState("restore(1) of a new object", x, o -> o.restore(1));
        SortedTables other = new SortedTables();
        x.insert(0, 5);
        dueTables("another object", other, "T;");
    }

    private static void appendCharacters() {
        SortedTables x = new SortedTables();
        due("append(0)", x.append(0), 1);
        due("append(255)", x.append(255), 2);
        dueArgument("append(-1)", x, o -> o.append(-1));
        dueArgument("append(256)", x, o -> o.append(256));
        dueArgument("append(MIN)", x, o -> o.append(Integer.MIN_VALUE));
        for (int k = 3; k <= 160; k++) {
            due("append('T')", x.append('T'), k);
        }
        dueState("append('T') to 160 characters", x, o -> o.append('T'));
        dueArgument("append(256) to 160 characters", x, o -> o.append(256));
        due("clearText() after 160", x.clearText(), 160);
        due("append('T') after clearText()", x.append('T'), 1);
    }

    private static void clearTheText() {
        SortedTables x = write("T01;");
        due("clearText()", x.clearText(), 4);
        due("clearText() again", x.clearText(), 0);
        due("errorPosition() after clearText()", x.errorPosition(), 0);
    }

    private static void checkTheText() {
        dueError("", 0);
        dueError("t;", 0);
        dueError(";", 0);
        dueError("T", 1);
        dueError("TT", 1);
        dueError("T ;", 1);
        dueError("T;", NONE);
        dueError("T;;", 2);
        dueError("T01", 3);
        dueError("T0", 2);
        dueError("T0;", 2);
        dueError("T0/", 2);
        dueError("T;0", 3);
        dueError("T;01", NONE);
        dueError("T;01;", 4);
        dueError("T;01 ", 4);
        dueError("T01;", NONE);
        dueError("T/", 1);
        dueError("T;/", 2);
        dueError("T01/;", 4);
        dueError("T01//", 4);
        dueError("T;01/", 5);
        dueError("T;01/0", 6);
        dueError("T;01/01", NONE);
        dueError("T;:", 2);
        dueError("T0a;", 2);
        dueError("T;01T", 4);
        dueError("T0\u00b3;", 2);
        dueError(STAIRS, NONE);
    }

    private static void checkNumbersOfTheText() {
        dueError("T1009;", 3);
        dueError("T1909;", 3);
        dueError("T1918;", 4);
        dueError("T1919;", NONE);
        dueError("T1919/18;", 7);
        dueError("T1929/09;", 6);
        dueError("T1929/1928;", 9);
        dueError("T1929/1919;", 8);
        dueError("T1929/1929;", NONE);
        dueError("T1920/3025;", 8);
        dueError("T1920/3125;", 8);
        dueError("T1920/2522;", 9);
        dueError("T;5049", 4);
        dueError("T;5950", 5);
        dueError("T;99/9998", 7);
        dueError("T;9999/9998", 10);
        dueError("T50;49", NONE);
    }

    private static void checkShapesOfTheText() {
        dueError("T000000000000;", NONE);
        dueError("T00000000000000;", 13);
        dueError("T000000000000x", 13);
        dueError("T01/0101;", 6);
        dueError("T01/01x", 6);
        dueError("T50/5000;", 6);
        dueError("T0101/01/0101;", 11);
        dueError("T01/01/01/01/01/01;", NONE);
        dueError("T01/01/01/01/01/01/01;", 18);
        dueError("T;01/01/01/01/01/01", NONE);
        dueError("T;01/01/01/01/01/01/", 19);
        dueError(FULL_PAIR, NONE);
        dueError(FULL_PAIR + "/", 156);
        dueError(FULL_PAIR + "0", 156);
        SortedTables x = write(STAIRS);
        x.errorPosition();
        dueTables("errorPosition()", x, "T;");
    }

    private static void loadTables() {
        SortedTables x = write(STAIRS);
        due("load()", x.load(), 9);
        dueTables("load()", x, STAIRS);
        due("errorPosition() after load()", x.errorPosition(), NONE);
        x.insert(0, 3);
        x.save(0);
        x.save(1);
        due("load() again", x.load(), 9);
        dueTables("load() again", x, STAIRS);
        dueState("undo() after load()", x, SortedTables::undo);
        dueState("restore(0) after load()", x, o -> o.restore(0));
        dueState("restore(1) after load()", x, o -> o.restore(1));
        due("clearText() after load()", x.clearText(), STAIRS.length());
        x.insert(1, 3);
        x.save(0);
        dueState("load() of no text", x, SortedTables::load);
        due("undo() after a load() that threw", x.undo(), 0);
        due("restore(0) after a load() that threw", x.restore(0), 10);
        dueState("load() of half a number", write("T0"), SortedTables::load);
        dueState("load() of a wrong text", write("T01;02/"), SortedTables::load);
        due("load() of empty tables", write("T;").load(), 0);
        due("load() of full tables", write(FULL_PAIR).load(), 72);
    }

    // ---- 6 to 8

    private static void tellAbout() {
        SortedTables x = loaded("T01030799/0205/09;0406");
        int[] first = {3, 4, 7, 1, 99, 126, 3, 4};
        int[] second = {1, 2, 2, 4, 6, 10, 1, 2};
        int[] empty = {0, 0, 0, NONE, NONE, 0, 0, 1};
        int[] full = {6, 6, 36, 0, 6, 36, 1, 0};
        SortedTables y = loaded("T;" + FULL_TABLE);
        for (int what = 0; what < 8; what++) {
            due("about(0, " + what + ")", x.about(0, what), first[what]);
            due("about(1, " + what + ")", x.about(1, what), second[what]);
            due("about(0, " + what + ") of an empty table", y.about(0, what), empty[what]);
            due("about(1, " + what + ") of a full table", y.about(1, what), full[what]);
        }
        due("about(0, 7) of a full row", loaded("T000000000000;").about(0, 7), 1);
        due("about(0, 7) of a full column", loaded("T00/00/00/00/00/00;").about(0, 7), 1);
        dueIndex("about(-1, 0)", x, o -> o.about(-1, 0));
        dueIndex("about(2, 0)", x, o -> o.about(2, 0));
        dueIndex("about(2, 8)", x, o -> o.about(2, 8));
        dueArgument("about(0, -1)", x, o -> o.about(0, -1));
        dueArgument("about(0, 8)", x, o -> o.about(0, 8));
    }

    private static void readCells() {
        SortedTables x = loaded(STAIRS);
        due("cell(0, 0, 0)", x.cell(0, 0, 0), 1);
        due("cell(0, 0, 2)", x.cell(0, 0, 2), 7);
        due("cell(0, 1, 1)", x.cell(0, 1, 1), 5);
        due("cell(0, 2, 0)", x.cell(0, 2, 0), 9);
        due("cell(1, 0, 1)", x.cell(1, 0, 1), 6);
        dueIndex("cell(2, 0, 0)", x, o -> o.cell(2, 0, 0));
        dueIndex("cell(-1, 0, 0)", x, o -> o.cell(-1, 0, 0));
        dueNoCells("cell", (o, i, j) -> o.cell(0, i, j));
    }

    /** The call is for table 0 with the rows of 3, 2 and 1 cells. */
    private static void dueNoCells(String name, OnPlace call) {
        int[][] places = {{0, 3}, {1, 2}, {2, 1}, {3, 0}, {0, -1}, {-1, 0}, {-1, 6}, {1, -1}, {0, 6},
            {6, 0}, {0, 12}, {MOST, 0}, {0, MOST}, {LEAST, 0}, {0, LEAST}};
        for (int[] p : places) {
            dueIndex(name + " at " + p[0] + ", " + p[1], loaded(STAIRS),
                    o -> call.on(o, p[0], p[1]));
        }
    }

    private static void measureRowsAndColumns() {
        SortedTables x = loaded("T010307/0205/09;04060708/06");
        int[][] sizes = {{3, 2, 1, 0, 0, 0}, {3, 2, 1, 0, 0, 0},
            {4, 1, 0, 0, 0, 0}, {2, 1, 1, 1, 0, 0}};
        for (int k = 0; k < 6; k++) {
            due("size(0, " + k + ", false)", x.size(0, k, false), sizes[0][k]);
            due("size(0, " + k + ", true)", x.size(0, k, true), sizes[1][k]);
            due("size(1, " + k + ", false)", x.size(1, k, false), sizes[2][k]);
            due("size(1, " + k + ", true)", x.size(1, k, true), sizes[3][k]);
        }
        dueIndex("size(2, 6, true)", x, o -> o.size(2, 6, true));
        dueIndex("size(-1, 0, true)", x, o -> o.size(-1, 0, true));
        dueArgument("size(0, 6, true)", x, o -> o.size(0, 6, true));
        dueArgument("size(0, 6, false)", x, o -> o.size(0, 6, false));
        dueArgument("size(0, -1, false)", x, o -> o.size(0, -1, false));
    }

    // ---- 9 to 15

    private static void insertNumbers() {
        SortedTables x = new SortedTables();
        due("insert(0, 50)", x.insert(0, 50), 0);
        due("insert(0, 60)", x.insert(0, 60), 1);
        due("insert(0, 60) below", x.insert(0, 60), 10);
        dueTables("insert", x, "T5060/60;");
        due("insert(0, 99)", x.insert(0, 99), 2);
        due("insert(0, 55) into (1, 1), both equal", x.insert(0, 55), 1);
        dueTables("insert with equal cells", x, "T505599/6060;");
        due("insert(0, 0)", x.insert(0, 0), 0);
        dueTables("insert(0, 0)", x, "T005599/5060/60;");
        due("insert(1, 7)", x.insert(1, 7), 0);
        dueTables("insert(1, 7)", x, "T005599/5060/60;07");
        SortedTables row = loaded("T1030/20;");
        due("insert(0, 5)", row.insert(0, 5), 0);
        dueTables("insert takes the gap of the smallest row", row, "T051030/20;");
        SortedTables left = loaded("T103050/40;");
        due("insert(0, 20) with the greater one to the left", left.insert(0, 20), 10);
        dueTables("insert slides to the left", left, "T103050/2040;");
        SortedTables upper = loaded("T104050/30;");
        due("insert(0, 20) with the greater one above", upper.insert(0, 20), 1);
        dueTables("insert slides upwards", upper, "T102050/3040;");
        SortedTables equal = loaded("T10;");
        due("insert(0, 10) beside an equal number", equal.insert(0, 10), 1);
        SortedTables full = loaded("T" + FULL_TABLE + ";");
        dueState("insert(0, 5) without a gap", full, o -> o.insert(0, 5));
        dueArgument("insert(0, 100) without a gap", full, o -> o.insert(0, 100));
        dueState("undo() after an insert that threw", full, SortedTables::undo);
        dueIndex("insert(2, 100)", x, o -> o.insert(2, 100));
        dueIndex("insert(-1, 5)", x, o -> o.insert(-1, 5));
        dueArgument("insert(0, 100)", x, o -> o.insert(0, 100));
        dueArgument("insert(0, -1)", x, o -> o.insert(0, -1));
    }

    private static void removeCells() {
        SortedTables x = loaded("T1020/2030/40;05");
        due("remove(0, 0, 0)", x.remove(0, 0, 0), 10);
        dueTables("remove takes the lower one of equal cells", x, "T2020/30/40;05");
        due("remove(0, 0, 0) again", x.remove(0, 0, 0), 20);
        dueTables("remove takes the smaller one", x, "T20/30/40;05");
        due("remove(0, 2, 0)", x.remove(0, 2, 0), 40);
        due("remove(1, 0, 0)", x.remove(1, 0, 0), 5);
        dueTables("remove of corners", x, "T20/30;");
        SortedTables full = loaded("T" + FULL_TABLE + ";");
        due("remove of a full table", full.remove(0, 0, 0), 0);
        dueTables("remove of a full table", full,
                "T000000000001/000000000002/000000000003/000000000004/000000000505/0102030406;");
        SortedTables y = loaded(STAIRS);
        dueIndex("remove(2, 0, 0)", y, o -> o.remove(2, 0, 0));
        dueNoCells("remove", (o, i, j) -> o.remove(0, i, j));
        dueState("undo() after a remove that threw", y, SortedTables::undo);
        dueIndex("remove of an empty table", new SortedTables(), o -> o.remove(0, 0, 0));
    }

    private static void changeNumbers() {
        SortedTables x = loaded("T1020/2030/40;05");
        due("change(0, 0, 0, 99)", x.change(0, 0, 0, 99), 11);
        dueTables("change slides down to the lower one of equal cells", x, "T2020/3099/40;05");
        due("change(0, 1, 1, 0)", x.change(0, 1, 1, 0), 0);
        dueTables("change slides up to the greater one", x, "T0020/2030/40;05");
        due("change(0, 1, 1, 30)", x.change(0, 1, 1, 30), 11);
        due("change(0, 1, 1, 10)", x.change(0, 1, 1, 10), 1);
        dueTables("change slides up to the upper one of equal cells", x, "T0010/2020/40;05");
        due("change(1, 0, 0, 6)", x.change(1, 0, 0, 6), 0);
        dueTables("change of the only cell", x, "T0010/2020/40;06");
        due("change(0, 0, 1, 20) to an equal number", x.change(0, 0, 1, 20), 1);
        dueArgument("change(0, 0, 0, 100)", x, o -> o.change(0, 0, 0, 100));
        dueArgument("change(0, 0, 0, -1)", x, o -> o.change(0, 0, 0, -1));
        dueIndex("change(0, 5, 5, 100)", x, o -> o.change(0, 5, 5, 100));
        dueIndex("change(2, 0, 0, 100)", x, o -> o.change(2, 0, 0, 100));
        dueNoCells("change", (o, i, j) -> o.change(0, i, j, 1));
    }

    private static void transferCells() {
        SortedTables x = loaded("T1020/2030;15");
        due("transfer(0, 1, 0)", x.transfer(0, 1, 0), 1);
        dueTables("transfer(0, 1, 0)", x, "T1020/30;1520");
        due("transfer(1, 0, 0)", x.transfer(1, 0, 0), 1);
        dueTables("transfer(1, 0, 0)", x, "T101520/30;20");
        SortedTables full = loaded("T" + FULL_TABLE + ";07");
        dueState("transfer into a full table", full, o -> o.transfer(1, 0, 0));
        dueIndex("transfer of no cell into a full table", full, o -> o.transfer(1, 0, 1));
        dueState("undo() after a transfer that threw", full, SortedTables::undo);
        due("transfer out of a full table", full.transfer(0, 5, 5), 0);
        dueTables("transfer out of a full table", full,
                "T" + FULL_TABLE.substring(0, FULL_TABLE.length() - 2) + ";0607");
        dueIndex("transfer(2, 0, 0)", x, o -> o.transfer(2, 0, 0));
        dueIndex("transfer(-1, 0, 0)", x, o -> o.transfer(-1, 0, 0));
        dueNoCells("transfer", (o, i, j) -> o.transfer(0, i, j));
    }

    private static void transposeTables() {
        SortedTables x = loaded("T01020304/05/06;0708");
        due("transpose(0)", x.transpose(0), 4);
        dueTables("transpose(0)", x, "T010506/02/03/04;0708");
        due("transpose(1)", x.transpose(1), 2);
        dueTables("transpose(1)", x, "T010506/02/03/04;07/08");
        due("transpose(0) again", x.transpose(0), 3);
        dueTables("transpose(0) again", x, "T01020304/05/06;07/08");
        due("transpose of an empty table", new SortedTables().transpose(1), 0);
        dueIndex("transpose(2)", x, o -> o.transpose(2));
        dueIndex("transpose(-1)", x, o -> o.transpose(-1));
    }

    private static void exchangeTables() {
        SortedTables x = loaded(STAIRS);
        due("exchange()", x.exchange(), 3);
        dueTables("exchange()", x, "T0406/06;010307/0205/09");
        due("exchange() again", x.exchange(), 6);
        dueTables("exchange() again", x, STAIRS);
        due("exchange() of empty tables", new SortedTables().exchange(), 0);
    }

    private static void undoActions() {
        SortedTables x = loaded(STAIRS);
        x.insert(0, 4);
        String inserted = show(x);
        x.remove(0, 0, 0);
        String removed = show(x);
        x.change(0, 0, 0, 88);
        String changed = show(x);
        x.transfer(0, 1, 0);
        String moved = show(x);
        x.transpose(1);
        String transposed = show(x);
        x.exchange();
        String[] due = {transposed, moved, changed, removed, inserted, STAIRS};
        for (int k = 0; k < due.length; k++) {
            due("undo()", x.undo(), due.length - 1 - k);
            dueTables("undo()", x, due[k]);
        }
        dueState("undo() of nothing", x, SortedTables::undo);
        x.change(0, 0, 0, 1);
        x.transpose(1);
        due("undo() of the second of two actions", x.undo(), 1);
        x.exchange();
        x.insert(0, 2);
        due("undo() of an action behind an undo", x.undo(), 2);
        due("undo() once more", x.undo(), 1);
        dueTables("undo() once more", x, STAIRS);
        due("undo() of a change to the same number", x.undo(), 0);
        dueTables("undo() of a change to the same number", x, STAIRS);
        x.insert(0, 4);
        x.clearText();
        x.append('T');
        x.undo();
        due("clearText() after undo()", x.clearText(), 1);
    }

    private static void rememberFourteenStates() {
        SortedTables x = new SortedTables();
        String[] states = new String[16];
        for (int k = 0; k < 16; k++) {
            states[k] = show(x);
            x.insert(0, 90 - k);
        }
        for (int k = 13; k >= 0; k--) {
            due("undo() after 16 actions", x.undo(), k);
            dueTables("undo() after 16 actions", x, states[2 + k]);
        }
        dueState("undo() of a forgotten state", x, SortedTables::undo);
        for (int k = 0; k < 14; k++) {
            x.exchange();
        }
        due("undo() after 14 actions", x.undo(), 13);
        x.exchange();
        due("undo() after an undo and an action", x.undo(), 13);
        SortedTables y = new SortedTables();
        for (int k = 0; k < 15; k++) {
            y.transpose(0);
        }
        due("undo() after 15 actions that make nothing different", y.undo(), 13);
    }

    // ---- 16 to 21

    private static void countNumbers() {
        SortedTables x = loaded(STAIRS);
        int[] counts = {0, 1, 2, 3, 3, 4, 4, 5, 5, 6, 6};
        for (int v = 0; v < counts.length; v++) {
            due("count(0, " + v + ")", x.count(0, v), counts[v]);
        }
        due("count(0, 99)", x.count(0, 99), 6);
        due("count(1, 5)", x.count(1, 5), 1);
        due("count(1, 6)", x.count(1, 6), 3);
        due("count of an empty table", new SortedTables().count(0, 99), 0);
        due("count(0, 0) of a full table", loaded("T" + FULL_TABLE + ";").count(0, 0), 25);
        dueIndex("count(2, 100)", x, o -> o.count(2, 100));
        dueIndex("count(-1, 0)", x, o -> o.count(-1, 0));
        dueArgument("count(0, 100)", x, o -> o.count(0, 100));
        dueArgument("count(0, -1)", x, o -> o.count(0, -1));
    }

    private static void walkAlong() {
        SortedTables x = loaded(STAIRS);
        int[][] walks = {{0, 3, NONE, 0}, {1, 4, 0, 10}, {2, 5, 10, 20}, {3, 5, 1, 20},
            {5, 4, 11, 20}, {6, 4, NONE, 20}, {7, 3, 2, 20}, {9, 3, 20, 20}, {99, 3, NONE, 20}};
        for (int[] walk : walks) {
            for (int what = 0; what < 3; what++) {
                due("walk(0, " + walk[0] + ", " + what + ")", x.walk(0, walk[0], what),
                        walk[what + 1]);
            }
        }
        SortedTables missed = loaded("T0505/05;");
        due("walk(0, 5, 1) finds the first place", missed.walk(0, 5, 1), 1);
        due("walk(0, 5, 0)", missed.walk(0, 5, 0), 2);
        due("walk(0, 5, 2)", missed.walk(0, 5, 2), 10);
        SortedTables wide = loaded("T010203040506/07;");
        due("walk(0, 6, 2) over a far shorter row", wide.walk(0, 6, 2), 10);
        due("walk(0, 7, 1) over a far shorter row", wide.walk(0, 7, 1), 10);
        SortedTables empty = new SortedTables();
        due("walk(0, 5, 0) of an empty table", empty.walk(0, 5, 0), 0);
        due("walk(0, 5, 1) of an empty table", empty.walk(0, 5, 1), NONE);
        due("walk(0, 5, 2) of an empty table", empty.walk(0, 5, 2), NONE);
        SortedTables full = loaded("T" + FULL_TABLE + ";");
        due("walk(0, 0, 0) of a full table", full.walk(0, 0, 0), 11);
        due("walk(0, 0, 2) of a full table", full.walk(0, 0, 2), 50);
        dueIndex("walk(2, 100, 3)", x, o -> o.walk(2, 100, 3));
        dueIndex("walk(-1, 0, 0)", x, o -> o.walk(-1, 0, 0));
        dueArgument("walk(0, 100, 0)", x, o -> o.walk(0, 100, 0));
        dueArgument("walk(0, -1, 0)", x, o -> o.walk(0, -1, 0));
        dueArgument("walk(0, 0, 3)", x, o -> o.walk(0, 0, 3));
        dueArgument("walk(0, 0, -1)", x, o -> o.walk(0, 0, -1));
    }

    private static void findKthCells() {
        SortedTables x = loaded(STAIRS);
        int[] numbers = {1, 2, 3, 5, 7, 9, NONE};
        int[] places = {0, 10, 1, 11, 2, 20, NONE};
        for (int k = 0; k < numbers.length; k++) {
            due("kth(0, " + k + ", false)", x.kth(0, k, false), numbers[k]);
            due("kth(0, " + k + ", true)", x.kth(0, k, true), places[k]);
        }
        SortedTables equal = loaded("T;050505/0505/05");
        int[] rows = {0, 1, 2, 10, 11, 20};
        for (int k = 0; k < rows.length; k++) {
            due("kth(1, " + k + ", true) of equal numbers", equal.kth(1, k, true), rows[k]);
        }
        SortedTables edge = loaded("T0099/99;");
        due("kth(0, 0, false) of 0", edge.kth(0, 0, false), 0);
        due("kth(0, 1, false) of 99", edge.kth(0, 1, false), 99);
        due("kth(0, 2, true) of 99", edge.kth(0, 2, true), 10);
        due("kth(0, MAX, true)", x.kth(0, Integer.MAX_VALUE, true), NONE);
        due("kth of an empty table", new SortedTables().kth(0, 0, true), NONE);
        dueIndex("kth(2, -1, true)", x, o -> o.kth(2, -1, true));
        dueIndex("kth(-1, 0, true)", x, o -> o.kth(-1, 0, true));
        dueArgument("kth(0, -1, true)", x, o -> o.kth(0, -1, true));
        dueArgument("kth(0, -1, false)", x, o -> o.kth(0, -1, false));
    }

    private static void rankCells() {
        SortedTables x = loaded("T010307/0305/09;0505/05");
        int[][] ranks = {{0, 0, 0, 0}, {0, 0, 1, 1}, {0, 1, 0, 2}, {0, 1, 1, 3}, {0, 0, 2, 4},
            {0, 2, 0, 5}, {1, 0, 0, 0}, {1, 0, 1, 1}, {1, 1, 0, 2}};
        for (int[] r : ranks) {
            due("rank(" + r[0] + ", " + r[1] + ", " + r[2] + ")", x.rank(r[0], r[1], r[2]), r[3]);
        }
        dueIndex("rank(2, 0, 0)", x, o -> o.rank(2, 0, 0));
        dueIndex("rank(-1, 0, 0)", x, o -> o.rank(-1, 0, 0));
        dueNoCells("rank", (o, i, j) -> o.rank(0, i, j));
    }

    private static void countWindows() {
        SortedTables x = loaded("T010203/020304/0304;99");
        due("windowCount(0, 1, 1, 2, 2, 3)", x.windowCount(0, 1, 1, 2, 2, 3), 1);
        due("windowCount(0, 1, 1, 2, 2, 4)", x.windowCount(0, 1, 1, 2, 2, 4), 3);
        due("windowCount(0, 0, 0, 1, 1, 0)", x.windowCount(0, 0, 0, 1, 1, 0), 0);
        due("windowCount(0, 0, 0, 1, 1, 1)", x.windowCount(0, 0, 0, 1, 1, 1), 1);
        due("windowCount(0, 0, 1, 2, 1, 3)", x.windowCount(0, 0, 1, 2, 1, 3), 2);
        due("windowCount(0, 1, 0, 1, 3, 3)", x.windowCount(0, 1, 0, 1, 3, 3), 2);
        due("windowCount beyond the table", x.windowCount(0, 2, 1, 6, 6, 99), 1);
        due("windowCount of no cell", x.windowCount(0, 5, 5, 6, 6, 99), 0);
        due("windowCount of all", x.windowCount(0, 0, 0, 6, 6, 99), 8);
        due("windowCount(1, 0, 0, 6, 6, 98)", x.windowCount(1, 0, 0, 6, 6, 98), 0);
        due("windowCount(1, 0, 0, 6, 6, 99)", x.windowCount(1, 0, 0, 6, 6, 99), 1);
        dueIndex("windowCount(2, 6, 6, 7, 7, 100)", x, o -> o.windowCount(2, 6, 6, 7, 7, 100));
        dueIndex("windowCount(-1, ..)", x, o -> o.windowCount(-1, 0, 0, 1, 1, 1));
        int[][] bad = {{-1, 0, 1, 1, 1}, {6, 0, 1, 1, 1}, {0, -1, 1, 1, 1}, {0, 6, 1, 1, 1},
            {0, 0, 0, 1, 1}, {0, 0, 7, 1, 1}, {0, 0, 1, 0, 1}, {0, 0, 1, 7, 1},
            {0, 0, 1, 1, -1}, {0, 0, 1, 1, 100}, {0, 0, Integer.MAX_VALUE, 1, 1}};
        for (int[] b : bad) {
            dueArgument("windowCount of " + b[0] + b[1] + b[2] + b[3] + b[4], x,
                    o -> o.windowCount(0, b[0], b[1], b[2], b[3], b[4]));
        }
    }

    private static void findKthOfWindows() {
        SortedTables x = loaded("T010203/020304/0304;99");
        int[] numbers = {3, 4, 4, NONE};
        for (int k = 0; k < numbers.length; k++) {
            due("windowKth(0, 1, 1, 2, 2, " + k + ")", x.windowKth(0, 1, 1, 2, 2, k), numbers[k]);
        }
        due("windowKth(0, 0, 0, 6, 6, 7)", x.windowKth(0, 0, 0, 6, 6, 7), 4);
        due("windowKth(0, 0, 0, 6, 6, 8)", x.windowKth(0, 0, 0, 6, 6, 8), NONE);
        due("windowKth(1, 0, 0, 1, 1, 0)", x.windowKth(1, 0, 0, 1, 1, 0), 99);
        due("windowKth of no cell", x.windowKth(0, 5, 5, 1, 1, 0), NONE);
        due("windowKth(.., MAX)", x.windowKth(0, 0, 0, 6, 6, Integer.MAX_VALUE), NONE);
        dueIndex("windowKth(2, 6, 6, 7, 7, -1)", x, o -> o.windowKth(2, 6, 6, 7, 7, -1));
        dueIndex("windowKth(-1, ..)", x, o -> o.windowKth(-1, 0, 0, 1, 1, 1));
        int[][] bad = {{-1, 0, 1, 1, 1}, {6, 0, 1, 1, 1}, {0, -1, 1, 1, 1}, {0, 6, 1, 1, 1},
            {0, 0, 0, 1, 1}, {0, 0, 7, 1, 1}, {0, 0, 1, 0, 1}, {0, 0, 1, 7, 1}, {0, 0, 1, 1, -1}};
        for (int[] b : bad) {
            dueArgument("windowKth of " + b[0] + b[1] + b[2] + b[3] + b[4], x,
                    o -> o.windowKth(0, b[0], b[1], b[2], b[3], b[4]));
        }
    }

    // ---- 22 to 24

    private static void findKthOfBoth() {
        SortedTables x = loaded(STAIRS);
        int[] numbers = {1, 2, 3, 4, 5, 6, 6, 7, 9, NONE};
        int[] tables = {0, 0, 0, 1, 0, 1, 1, 0, 0, NONE};
        for (int k = 0; k < numbers.length; k++) {
            due("kthOfBoth(" + k + ", false)", x.kthOfBoth(k, false), numbers[k]);
            due("kthOfBoth(" + k + ", true)", x.kthOfBoth(k, true), tables[k]);
        }
        SortedTables equal = loaded("T0599;000599");
        int[] due = {1, 0, 1, 0, 1, NONE};
        for (int k = 0; k < due.length; k++) {
            due("kthOfBoth(" + k + ", true) of equal numbers", equal.kthOfBoth(k, true), due[k]);
        }
        due("kthOfBoth(4, false)", equal.kthOfBoth(4, false), 99);
        due("kthOfBoth of empty tables", new SortedTables().kthOfBoth(0, true), NONE);
        dueArgument("kthOfBoth(-1, true)", x, o -> o.kthOfBoth(-1, true));
        dueArgument("kthOfBoth(-1, false)", x, o -> o.kthOfBoth(-1, false));
    }

    private static void countPairs() {
        SortedTables x = loaded(STAIRS);
        int[] counts = {0, 0, 0, 0, 0, 1, 2, 5, 7, 10};
        for (int s = 0; s < counts.length; s++) {
            due("pairs(" + s + ")", x.pairs(s), counts[s]);
        }
        due("pairs(14)", x.pairs(14), 16);
        due("pairs(15)", x.pairs(15), 18);
        due("pairs(198)", x.pairs(198), 18);
        due("pairs(197) of 99", loaded("T99;99").pairs(197), 0);
        due("pairs(198) of 99", loaded("T99;99").pairs(198), 1);
        due("pairs(0) of 0", loaded("T00;00").pairs(0), 1);
        due("pairs(198) with an empty table", loaded("T00;").pairs(198), 0);
        due("pairs of full tables",
                loaded(FULL_PAIR).pairs(198), 1296);
        dueArgument("pairs(-1)", x, o -> o.pairs(-1));
        dueArgument("pairs(199)", x, o -> o.pairs(199));
    }

    private static void findKthSums() {
        SortedTables x = loaded(STAIRS);
        int[] sums = {5, 6, 7, 7, 7, 8, 8, 9, 9, 9};
        for (int k = 0; k < sums.length; k++) {
            due("kthSum(" + k + ")", x.kthSum(k), sums[k]);
        }
        due("kthSum(17)", x.kthSum(17), 15);
        due("kthSum(18)", x.kthSum(18), NONE);
        due("kthSum(0) of 99", loaded("T99;99").kthSum(0), 198);
        due("kthSum(0) of 0", loaded("T00;00").kthSum(0), 0);
        due("kthSum(0) with an empty table", loaded("T;00").kthSum(0), NONE);
        due("kthSum(MAX)", x.kthSum(Integer.MAX_VALUE), NONE);
        dueArgument("kthSum(-1)", x, o -> o.kthSum(-1));
    }

    // ---- 25 to 30

    private static void findCornersAndGaps() {
        SortedTables x = loaded("T010307/0205/09;0406/0606");
        dueCorners(x, 0, new int[] {2, 11, 20}, new int[] {3, 12, 21, 30});
        dueCorners(x, 1, new int[] {11}, new int[] {2, 20});
        dueCorners(new SortedTables(), 0, new int[0], new int[] {0});
        dueCorners(loaded("T" + FULL_TABLE + ";"), 0, new int[] {55}, new int[0]);
        dueCorners(loaded("T000000000000;"), 0, new int[] {5}, new int[] {10});
        dueCorners(loaded("T00/00/00/00/00/00;"), 0, new int[] {50}, new int[] {1});
        due("corner(0, MAX, true)", x.corner(0, Integer.MAX_VALUE, true), NONE);
        dueIndex("corner(2, -1, true)", x, o -> o.corner(2, -1, true));
        dueIndex("corner(-1, 0, true)", x, o -> o.corner(-1, 0, true));
        dueArgument("corner(0, -1, true)", x, o -> o.corner(0, -1, true));
        dueArgument("corner(0, -1, false)", x, o -> o.corner(0, -1, false));
    }

    private static void dueCorners(SortedTables x, int t, int[] corners, int[] gaps) {
        for (int k = 0; k < corners.length + 2; k++) {
            due("corner(" + t + ", " + k + ", false)", x.corner(t, k, false),
                    k < corners.length ? corners[k] : NONE);
        }
        for (int k = 0; k < gaps.length + 2; k++) {
            due("corner(" + t + ", " + k + ", true)", x.corner(t, k, true),
                    k < gaps.length ? gaps[k] : NONE);
        }
    }

    private static void measureHooks() {
        SortedTables x = loaded("T01030708/0205/09;" + FULL_TABLE);
        int[][] hooks = {{0, 0, 0, 6}, {0, 0, 1, 4}, {0, 0, 2, 2}, {0, 0, 3, 1}, {0, 1, 0, 3},
            {0, 1, 1, 1}, {0, 2, 0, 1}, {1, 0, 0, 11}, {1, 5, 5, 1}, {1, 2, 3, 6}};
        for (int[] h : hooks) {
            due("hook(" + h[0] + ", " + h[1] + ", " + h[2] + ")", x.hook(h[0], h[1], h[2]), h[3]);
        }
        dueIndex("hook(2, 0, 0)", x, o -> o.hook(2, 0, 0));
        dueIndex("hook(-1, 0, 0)", x, o -> o.hook(-1, 0, 0));
        dueNoCells("hook", (o, i, j) -> o.hook(0, i, j));
    }

    private static void countFillings() {
        SortedTables x = loaded(STAIRS);
        due("fillings(0)", x.fillings(0), 16);
        due("fillings(1)", x.fillings(1), 2);
        due("fillings of an empty table", new SortedTables().fillings(0), 1);
        due("fillings of a row", loaded("T000000000000;").fillings(0), 1);
        due("fillings of two rows", loaded("T000000000000/000000000000;").fillings(0), 132);
        due("fillings of a full table",
                loaded("T" + FULL_TABLE + ";").fillings(0), 1671643033734960L);
        due("fillings of a full table without its last cell",
                loaded("T" + FULL_TABLE.substring(0, 75) + ";").fillings(0), 1671643033734960L);
        dueIndex("fillings(2)", x, o -> o.fillings(2));
        dueIndex("fillings(-1)", x, o -> o.fillings(-1));
    }

    private static void findGreatestPaths() {
        SortedTables x = loaded("T010307/0205/09;0405/05");
        due("path(0, 0)", x.path(0, 0), 12);
        due("path(0, 1)", x.path(0, 1), 20);
        due("path(1, 0)", x.path(1, 0), 9);
        due("path(1, 1) of two equal paths", x.path(1, 1), 1);
        SortedTables inner = loaded("T010207/0509/06;");
        due("path(0, 0) over the inner corner", inner.path(0, 0), 15);
        due("path(0, 1) over the inner corner", inner.path(0, 1), 11);
        due("path(0, 0) of a cell with 0", loaded("T00;").path(0, 0), 0);
        due("path(0, 1) of a cell with 0", loaded("T00;").path(0, 1), 0);
        due("path(0, 0) of zeros", loaded("T0000/00;").path(0, 0), 0);
        due("path(0, 1) of zeros", loaded("T0000/00;").path(0, 1), 1);
        due("path(0, 0) of a full table", loaded("T" + FULL_TABLE + ";").path(0, 0), 21);
        due("path(0, 1) of a full table", loaded("T" + FULL_TABLE + ";").path(0, 1), 55);
        due("path(0, 0) of an empty table", new SortedTables().path(0, 0), NONE);
        due("path(0, 1) of an empty table", new SortedTables().path(0, 1), NONE);
        dueIndex("path(2, 2)", x, o -> o.path(2, 2));
        dueIndex("path(-1, 0)", x, o -> o.path(-1, 0));
        dueArgument("path(0, 2)", x, o -> o.path(0, 2));
        dueArgument("path(0, -1)", x, o -> o.path(0, -1));
        dueArgument("path(0, 2) of an empty table", new SortedTables(), o -> o.path(0, 2));
    }

    private static void askIfInserted() {
        SortedTables x = loaded("T010307/0205/09;103050/40");
        int[][] slides = {{0, 0, 3, 0}, {0, 8, 0, 3}, {0, 4, 1, 2}, {0, 7, 0, 3}, {1, 20, 1, 10},
            {1, 35, 1, 10}, {1, 40, 0, 11}, {1, 5, 2, 0}};
        for (int[] s : slides) {
            due("ifInserted(" + s[0] + ", " + s[1] + ", true)",
                    x.ifInserted(s[0], s[1], true), s[2]);
            due("ifInserted(" + s[0] + ", " + s[1] + ", false)",
                    x.ifInserted(s[0], s[1], false), s[3]);
        }
        dueTables("ifInserted", x, "T010307/0205/09;103050/40");
        dueState("undo() after ifInserted", x, SortedTables::undo);
        SortedTables full = loaded("T" + FULL_TABLE + ";");
        due("ifInserted without a gap", full.ifInserted(0, 5, true), NONE);
        due("ifInserted without a gap, place", full.ifInserted(0, 5, false), NONE);
        due("ifInserted into an empty table", full.ifInserted(1, 5, false), 0);
        due("ifInserted into an empty table, slide", full.ifInserted(1, 5, true), 0);
        dueArgument("ifInserted(0, 100, ..) without a gap", full, o -> o.ifInserted(0, 100, true));
        dueIndex("ifInserted(2, 100, true)", x, o -> o.ifInserted(2, 100, true));
        dueIndex("ifInserted(-1, 0, true)", x, o -> o.ifInserted(-1, 0, true));
        dueArgument("ifInserted(0, -1, true)", x, o -> o.ifInserted(0, -1, true));
        dueArgument("ifInserted(0, 100, false)", x, o -> o.ifInserted(0, 100, false));
    }

    private static void askIfRemoved() {
        SortedTables x = loaded("T010307/0205/09;0406/06");
        int[][] ends = {{0, 0, 0, 11}, {0, 0, 1, 11}, {0, 0, 2, 2}, {0, 1, 0, 11}, {0, 2, 0, 20},
            {1, 0, 0, 10}, {1, 0, 1, 1}};
        for (int[] e : ends) {
            due("ifRemoved(" + e[0] + ", " + e[1] + ", " + e[2] + ")",
                    x.ifRemoved(e[0], e[1], e[2]), e[3]);
        }
        dueTables("ifRemoved", x, "T010307/0205/09;0406/06");
        dueState("undo() after ifRemoved", x, SortedTables::undo);
        dueIndex("ifRemoved(2, 0, 0)", x, o -> o.ifRemoved(2, 0, 0));
        dueIndex("ifRemoved(-1, 0, 0)", x, o -> o.ifRemoved(-1, 0, 0));
        dueNoCells("ifRemoved", (o, i, j) -> o.ifRemoved(0, i, j));
    }

    // ---- 31 to 34

    private static void dueScript(String text, int n, long script, int want) {
        SortedTables x = loaded(text);
        due("runScript(" + n + ", " + script + ") on " + text, x.runScript(n, script), want);
        dueTables("runScript(" + n + ", " + script + ")", x, text);
        dueState("undo() after runScript", x, SortedTables::undo);
    }

    private static void runScripts() {
        dueScript(STAIRS, 1, 50006, NONE);
        dueScript(STAIRS, 1, 51003, NONE);
        dueScript(STAIRS, 1, 60009, NONE);
        dueScript(STAIRS, 1, 61006, NONE);
        dueScript(STAIRS, 1, 70009, NONE);
        dueScript(STAIRS, 1, 70099, NONE);
        dueScript(STAIRS, 1, 80018, NONE);
        dueScript("T;01", 1, 80000, NONE);
        dueScript("T0000;", 1, 60000, NONE);
        dueScript(STAIRS, 2, 1000550007L, NONE);
        dueScript(STAIRS, 2, 1009960099L, NONE);
        dueScript(STAIRS, 3, 110005100451000L, 2);
        dueScript(STAIRS, 3, 110005100460000L, 2);
        dueScript(STAIRS, 3, 110005100461000L, NONE);
        dueScript(STAIRS, 3, 200005000560001L, 2);
        dueScript(STAIRS, 3, 300005000551004L, NONE);
        dueScript(STAIRS, 2, 3000061001L, NONE);
        dueScript(STAIRS, 2, 3100060004L, NONE);
        dueScript("T0102;", 2, 4000020100L, NONE);
        dueScript("T;0102", 2, 4100021100L, NONE);
        dueScript("T0102;", 2, 4100020100L, 1);
        dueScript(STAIRS, 3, 201105000580015L, NONE);
        dueScript("T" + FULL_TABLE + ";", 2, 2055010000L, NONE);
    }

    private static void runScriptsThatFail() {
        long[] failing = {50007, 50106, 52006, 60004, 60109, 70008, 70109, 80017, 81018, 10105,
            12005, 20001, 20030, 22000, 20600, 20060, 30001, 30030, 32000, 40001, 40010, 40100,
            42000, 49000, 90000, 99999, 0, 1, 9999, 5006};
        for (long script : failing) {
            dueScript(STAIRS, 1, script, 0);
        }
        dueScript("T;", 1, 70099, 0);
        dueScript("T;", 1, 60000, 0);
        dueScript("T" + FULL_TABLE + ";07", 1, 10000, 0);
        dueScript("T" + FULL_TABLE + ";07", 1, 31000, 0);
        dueScript("T" + FULL_TABLE + ";07", 2, 2000031000L, NONE);
        dueScript(STAIRS, 2, 50006, 0);
        dueScript(STAIRS, 3, 5000650006L, 0);
        dueScript(STAIRS, 2, 5000690000L, 1);
        dueScript(STAIRS, 3, 999999999999999L, 0);
        SortedTables x = loaded(STAIRS);
        dueArgument("runScript(0, 0)", x, o -> o.runScript(0, 0));
        dueArgument("runScript(4, 0)", x, o -> o.runScript(4, 0));
        dueArgument("runScript(-1, 0)", x, o -> o.runScript(-1, 0));
        dueArgument("runScript(1, -1)", x, o -> o.runScript(1, -1));
        dueArgument("runScript(1, MIN)", x, o -> o.runScript(1, Long.MIN_VALUE));
        dueArgument("runScript(1, 100000)", x, o -> o.runScript(1, 100000));
        dueArgument("runScript(2, 10000000000)", x, o -> o.runScript(2, 10000000000L));
        dueArgument("runScript(3, 10 to the 15)", x, o -> o.runScript(3, 1000000000000000L));
        dueArgument("runScript(3, MAX)", x, o -> o.runScript(3, Long.MAX_VALUE));
    }

    private static void simulateRounds() {
        String[] texts = {"T;", STAIRS, FULL_PAIR};
        long[] seeds = {0, 1, -1, 5, 77, Long.MIN_VALUE, Long.MAX_VALUE, 123456789012345L};
        for (String text : texts) {
            for (long seed : seeds) {
                for (int m : new int[] {1, 2, 20, 60}) {
                    SortedTables x = loaded(text);
                    int sum = x.simulate(seed, m);
                    dueTables("simulate", x, text);
                    dueState("undo() after simulate", x, SortedTables::undo);
                    due("simulate(" + seed + ", " + m + ") on " + text, sum,
                            sumAfterRounds(loaded(text), seed, m));
                }
            }
        }
        SortedTables x = loaded(STAIRS);
        dueArgument("simulate(0, 0)", x, o -> o.simulate(0, 0));
        dueArgument("simulate(0, 61)", x, o -> o.simulate(0, 61));
        dueArgument("simulate(0, -1)", x, o -> o.simulate(0, -1));
    }

    private static void saveTables() {
        SortedTables x = loaded(STAIRS);
        due("save(0)", x.save(0), 9);
        x.remove(0, 0, 0);
        due("save(1)", x.save(1), 8);
        due("undo() after save", x.undo(), 0);
        dueTables("undo() after save", x, STAIRS);
        due("restore(1)", x.restore(1), 8);
        due("restore(0)", x.restore(0), 9);
        dueTables("restore(0)", x, STAIRS);
        x.remove(1, 0, 0);
        due("save(0) over another", x.save(0), 8);
        x.exchange();
        due("restore(0) of the later one", x.restore(0), 8);
        dueTables("restore(0) of the later one", x, "T010307/0205/09;0606");
        due("save of empty tables", new SortedTables().save(1), 0);
        dueIndex("save(2)", x, o -> o.save(2));
        dueIndex("save(-1)", x, o -> o.save(-1));
    }

    private static void restoreTables() {
        SortedTables x = loaded(STAIRS);
        x.save(1);
        x.insert(0, 50);
        x.exchange();
        dueState("restore(0) of an empty slot", x, o -> o.restore(0));
        due("undo() after a restore that threw", x.undo(), 1);
        due("restore(1)", x.restore(1), 9);
        dueTables("restore(1)", x, STAIRS);
        dueState("undo() after restore", x, SortedTables::undo);
        x.insert(0, 50);
        due("restore(1) again", x.restore(1), 9);
        dueTables("restore(1) again", x, STAIRS);
        due("clearText() after restore", x.clearText(), STAIRS.length());
        SortedTables empty = new SortedTables();
        empty.save(0);
        empty.insert(1, 5);
        due("restore(0) of empty tables", empty.restore(0), 0);
        dueTables("restore(0) of empty tables", empty, "T;");
        dueIndex("restore(2)", x, o -> o.restore(2));
        dueIndex("restore(-1)", x, o -> o.restore(-1));
    }
}
