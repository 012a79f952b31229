/** What the document says of slides, walks and windows, and the promises 17, 20 and 21. */
final class WayBoundaries extends Checks {
    /** Number i + j stands at row i, column j. */
    private static final String SUMS = "000102030405/010203040506/020304050607/030405060708/"
            + "040506070809/050607080910";
    private static final int[] STEPS = {6, 5, 4, 3, 2, 1};
    private static final String STEPS_OF_SUMS =
            "000102030405/0102030405/02030405/030405/0405/05";

    static void test(Sentences s) {
        slidesUp(s);
        slidesDown(s);
        insertions(s);
        removals(s);
        walks(s);
        walkArguments(s);
        windows(s);
        windowCounts(s);
        windowKths(s);
    }

    // ---- slides

    private static void dueInsert(String table, int v, int place, String want) {
        SortedTables x = loaded("T" + table + ";");
        due("insert " + v + " into " + table, x.insert(0, v), place);
        dueTables("insert " + v + " into " + table, x, "T" + want + ";");
    }

    private static void dueChange(String table, int i, int j, int v, int place, String want) {
        SortedTables x = loaded("T;" + table);
        String call = "change(1, " + i + ", " + j + ", " + v + ") of " + table;
        due(call, x.change(1, i, j, v), place);
        dueTables(call, x, "T;" + want);
    }

    private static void slidesUp(Sentences s) {
        s.in("SLIDES");
        s.holds("again and again, as long as one of these has a greater number", () -> {
            dueInsert("10", 9, 0, "0910");
            dueInsert("10", 10, 1, "1010");
            dueInsert("10", 11, 1, "1011");
            dueInsert("1010/10", 10, 2, "101010/10");
            dueInsert("103050/40", 40, 11, "103050/4040");
            dueInsert("103050/30", 30, 11, "103050/3030");
            dueChange(SUMS, 5, 5, 0, 1, "000001020304/010203040505/020304050606/030405060707/"
                    + "040506070808/050607080909");
        });
        s.holds("with the one with the greater number of both", () -> {
            dueInsert("103050/40", 20, 10, "103050/2040");
            dueInsert("103050/40", 35, 10, "103050/3540");
            dueInsert("104050/30", 20, 1, "102050/3040");
            dueInsert("104050/30", 35, 1, "103550/3040");
        });
        s.holds("with the upper one if they are equal", () -> {
            dueInsert("104050/40", 39, 1, "103950/4040");
            dueInsert("104050/40", 20, 1, "102050/4040");
            dueChange("1020/2030", 1, 1, 15, 1, "1015/2020");
        });
        s.holds("(A cell that does not exist does not count.)", () -> {
            dueChange("102030", 0, 2, 5, 0, "051020");
            dueChange("10/20/30", 2, 0, 5, 0, "05/10/20");
            dueInsert("203040/3040", 10, 0, "103040/2040/30");
            dueInsert("2030/40", 10, 0, "102030/40");
            dueInsert("", 0, 0, "00");
            dueChange("10", 0, 0, 0, 0, "00");
        });
    }

    private static void slidesDown(Sentences s) {
        s.holds("again and again, as long as one of these has a smaller number", () -> {
            dueChange("1010/10", 0, 0, 10, 0, "1010/10");
            dueChange("1020/20", 0, 0, 20, 0, "2020/20");
            dueChange("1020/20", 0, 0, 19, 0, "1920/20");
            dueChange("1020/30", 0, 0, 21, 1, "2021/30");
            dueChange(SUMS, 0, 0, 99, 55, "010102030405/020203040506/030304050607/040405060708/"
                    + "050506070809/060708091099");
        });
        s.holds("with the one with the smaller number of both", () -> {
            dueChange("102030/1540", 0, 0, 99, 11, "152030/4099");
            dueChange("101530/2040", 0, 0, 99, 2, "153099/2040");
            dueChange("1020/30", 0, 0, 25, 1, "2025/30");
            dueChange("1030/20", 0, 0, 25, 10, "2030/25");
        });
        s.holds("with the lower one if they are equal", () -> {
            dueChange("1020/20", 0, 0, 21, 10, "2020/21");
            dueChange("102030/2040", 0, 0, 99, 11, "202030/4099");
            dueChange("102020/20", 0, 0, 99, 10, "202020/99");
        });
        s.holds("A number that slides down exchanges its place with the cell below it or to the "
                + "right of it", () -> {
                    dueChange("10/20/30", 0, 0, 99, 20, "20/30/99");
                    dueChange("102030", 0, 0, 99, 2, "203099");
                    dueChange("102030/2030/40", 1, 1, 99, 11, "102030/2099/40");
                    dueChange(SUMS, 5, 0, 99, 55, SUMS.replace("050607080910", "060708091099"));
                    dueChange(SUMS, 0, 5, 99, 55, "000102030406/010203040507/020304050608/"
                            + "030405060709/040506070810/050607080999");
                    dueChange(SUMS, 5, 5, 99, 55, SUMS.replace("080910", "080999"));
                });
        s.holds("Changing the number of a cell: the new number is put there and slides up; then, from "
                + "where it is, it slides down.", () -> {
                    String middle = "102030/203040/304050";
                    dueChange(middle, 1, 1, 30, 11, middle);
                    dueChange(middle, 1, 1, 20, 11, "102030/202040/304050");
                    dueChange(middle, 1, 1, 40, 11, "102030/204040/304050");
                    dueChange(middle, 1, 1, 19, 1, "101930/202040/304050");
                    dueChange(middle, 1, 1, 41, 21, "102030/204040/304150");
                    dueChange(middle, 1, 1, 0, 0, "001030/202040/304050");
                    dueChange(middle, 1, 1, 99, 22, "102030/204040/305099");
                });
    }

    private static void insertions(Sentences s) {
        s.holds("it is put into the gap with the smallest sum of row and column, among several into "
                + "the one with the smallest row; then it slides up", () -> {
                    for (int[] lengths : Shapes.all()) {
                        if (Shapes.cells(lengths) < 36) {
                            dueNearestGap(lengths);
                        }
                    }
                    dueInsert("010203040506/02/03/04/05/06", 99, 11, "010203040506/0299/03/04/05/06");
                    dueInsert("0102030405/02/03/04/05", 99, 11, "0102030405/0299/03/04/05");
                    dueInsert("0102/0203", 1, 1, "010102/0203");
                });
    }

    /** 99 slides nowhere, so the place at the end is the gap. */
    private static void dueNearestGap(int[] lengths) {
        int nearest = 99;
        for (int gap : Shapes.gaps(lengths)) {
            if (gap / 10 + gap % 10 < nearest / 10 + nearest % 10) {
                nearest = gap;
            }
        }
        String table = Shapes.text(lengths, 50);
        SortedTables x = loaded("T" + table + ";" + table);
        due("ifInserted into " + table, x.ifInserted(0, 99, false), nearest);
        due("insert into " + table, x.insert(1, 99), nearest);
        due("the cell that was put into " + table, x.cell(1, nearest / 10, nearest % 10), 99);
    }

    private static void dueRemove(String table, int i, int j, int end, String want) {
        SortedTables x = loaded("T" + table + ";");
        String call = "remove(0, " + i + ", " + j + ") of " + table;
        due("if it were " + call, x.ifRemoved(0, i, j), end);
        due(call, x.remove(0, i, j), Integer.parseInt(table.split("/")[i].substring(2 * j, 2 * j + 2)));
        dueTables(call, x, "T" + want + ";");
    }

    private static void removals(Sentences s) {
        s.holds("As long as there is a cell below the hole or to the right of it, the one with the "
                + "smaller number", () -> {
                    dueRemove("1020/3040", 0, 0, 11, "2040/30");
                    dueRemove("1030/2040", 0, 0, 11, "2030/40");
                    dueRemove("10/20/30", 0, 0, 20, "20/30");
                    dueRemove("102030", 0, 0, 2, "2030");
                    dueRemove("102030", 0, 1, 2, "1030");
                    dueRemove(SUMS, 5, 0, 55, SUMS.replace("050607080910", "0607080910"));
                });
        s.holds("(the lower one if they are equal) moves into the hole", () -> {
            dueRemove("1020/2030", 0, 0, 11, "2020/30");
            dueRemove("102020/20", 0, 0, 10, "202020");
            dueRemove("050505/0505/05", 0, 0, 20, "050505/0505");
            dueRemove("050505/0505/05", 0, 1, 11, "050505/05/05");
        });
        s.holds("In the end the hole is a corner, and it ceases to exist.", () -> {
            dueRemove("10", 0, 0, 0, "");
            dueRemove("1020/2030/40", 0, 1, 11, "1030/20/40");
            dueRemove("1020/2030/40", 1, 1, 11, "1020/20/40");
            dueRemove("1020/2030/40", 2, 0, 20, "1020/2030");
            dueRemove(SUMS, 5, 5, 55, SUMS.replace("080910", "0809"));
            for (int place : Shapes.places()) {
                SortedTables x = loaded("T;" + SUMS);
                due("ifRemoved at " + place + " of a full table",
                        x.ifRemoved(1, place / 10, place % 10), 55);
                x.remove(1, place / 10, place % 10);
                due("the last row then", x.size(1, 5, false), 5);
                due("the row above it", x.size(1, 4, false), 6);
            }
        });
    }

    // ---- walks

    private static void dueWalk(String table, int v, int steps, int found, int last) {
        SortedTables x = loaded("T;" + table);
        String walk = "the walk for " + v + " in " + table;
        due("the steps of " + walk, x.walk(1, v, 0), steps);
        due("the number in " + walk, x.walk(1, v, 1), found);
        due("the last place of " + walk, x.walk(1, v, 2), last);
    }

    private static void walks(Sentences s) {
        s.in("WALKS");
        s.holds("begins at the last cell of row 0 (it has no step if the table is empty)", () -> {
            dueWalk("", 0, 0, NONE, NONE);
            dueWalk("", 50, 0, NONE, NONE);
            dueWalk("", 99, 0, NONE, NONE);
            dueWalk("05", 5, 1, 0, 0);
            dueWalk("05", 4, 1, NONE, 0);
            dueWalk("05", 6, 1, NONE, 0);
            dueWalk("0505", 5, 1, 1, 1);
            dueWalk("050505050505", 5, 1, 5, 5);
        });
        s.holds("if its number is greater than v, it goes to the cell to the left of it; otherwise it "
                + "goes to the cell below it", () -> {
                    dueWalk("0505/0505", 4, 2, NONE, 0);
                    dueWalk("0505/0505", 5, 2, 1, 11);
                    dueWalk("0505/0505", 6, 2, NONE, 11);
                    dueWalk(SUMS, 5, 11, 5, 50);
                    dueWalk(SUMS, 4, 11, 4, 50);
                    dueWalk(SUMS, 6, 10, 15, 51);
                    dueWalk("0205/0406/0708", 4, 4, 10, 20);
                });
        s.holds("It ends where there is no such cell.", () -> {
            dueWalk(SUMS, 0, 7, 0, 10);
            dueWalk(SUMS, 99, 6, NONE, 55);
            dueWalk("05/06", 4, 1, NONE, 0);
            dueWalk("05/06", 5, 2, 0, 10);
            dueWalk("05/06", 6, 2, 10, 10);
            dueWalk("010101010101/010101010101", 0, 6, NONE, 0);
            dueWalk("01/01/01/01/01/01", 1, 6, 0, 50);
        });
        s.holds("But if there is no cell below and there are rows further down, it goes to the last "
                + "cell of the next row.", () -> {
                    dueWalk("010203/04", 2, 3, 1, 10);
                    dueWalk("010203/04", 3, 2, 2, 10);
                    dueWalk("010203/04", 4, 2, 10, 10);
                    dueWalk("010203040506/07", 6, 2, 5, 10);
                    dueWalk("010203/0405/06", 99, 3, NONE, 20);
                    dueWalk("010203/0405/06", 5, 3, 11, 20);
                    dueWalk("010203/0404/05", 4, 3, 11, 20);
                    dueWalk("010203/0909", 3, 3, 2, 10);
                    dueWalk(STEPS_OF_SUMS, 5, 6, 5, 50);
                });
    }

    private static void walkArguments(Sentences s) {
        s.in("Promise 17: walk");
        s.holds("`v`: 0 to 99", () -> {
            dueWalk("0099", 0, 2, 0, 0);
            dueWalk("0099", 99, 1, 1, 1);
        });
        s.holds("the first of its places whose number is v, as 10 * (row) + (column) (NONE if there "
                + "is none)", () -> {
                    dueWalk("0303/0303", 3, 2, 1, 11);
                    dueWalk("0003/0303", 0, 3, 0, 10);
                    dueWalk("0204/0304", 3, 3, 10, 10);
                    dueWalk("02/04", 3, 2, NONE, 10);
                });
        s.holds("2: its last place, likewise (NONE if it has no step)", () -> {
            SortedTables x = new SortedTables();
            for (int v = 0; v < 100; v++) {
                due("the last place of no step", x.walk(0, v, 2), NONE);
            }
            due("the last place of one step", loaded("T00;").walk(0, 0, 2), 0);
        });
        s.holds("Throws `IndexOutOfBoundsException` if there is no such table",
                () -> dueNoTable("walk", (x, t) -> x.walk(t, 5, 0)));
        s.holds("Throws `IllegalArgumentException` if v is out of range, or what is not 0 to 2", () -> {
            for (int told = 0; told < 3; told++) {
                int what = told;
                dueRange("v of walk", 0, 99, (x, v) -> x.walk(0, v, what));
            }
            dueRange("what of walk", 0, 2, (x, what) -> x.walk(0, 5, what));
        });
    }

    // ---- windows

    /** How many cells of the steps of sums lie in the window and have at most v. */
    private static int inWindow(int i, int j, int h, int w, int v) {
        int cells = 0;
        for (int row = i; row < i + h; row++) {
            for (int column = j; column < j + w; column++) {
                cells += Shapes.has(STEPS, Math.min(row, 5), column) && row < 6 && row + column <= v
                        ? 1 : 0;
            }
        }
        return cells;
    }

    private static void dueWindow(int t, int i, int j, int h, int w) {
        SortedTables x = loaded(t == 0 ? "T" + STEPS_OF_SUMS + ";09" : "T09;" + STEPS_OF_SUMS);
        String told = " of window " + i + ", " + j + ", " + h + ", " + w;
        int k = 0;
        for (int v = 0; v <= 5; v++) {
            int upTo = inWindow(i, j, h, w, v);
            due("count of " + v + told, x.windowCount(t, i, j, h, w, v), upTo);
            for (; k < upTo; k++) {
                due(k + "-th number" + told, x.windowKth(t, i, j, h, w, k), v);
            }
        }
        due("count of 99" + told, x.windowCount(t, i, j, h, w, 99), k);
        due("number behind the last" + told, x.windowKth(t, i, j, h, w, k), NONE);
        due("number far behind the last" + told, x.windowKth(t, i, j, h, w, MOST), NONE);
    }

    private static void windows(Sentences s) {
        s.in("WINDOWS");
        s.holds("A window of a table has an upper left place (i, j), 0 to 5 each, and h rows and w "
                + "columns, 1 to 6 each.", () -> {
                    for (int place : Shapes.places()) {
                        for (int size : Shapes.places()) {
                            dueWindow(size % 2, place / 10, place % 10, size / 10 + 1, size % 10 + 1);
                        }
                    }
                });
        s.holds("It consists of the cells of the table that lie in the rows i to i + h - 1 and the "
                + "columns j to j + w - 1.", () -> {
                    SortedTables x = loaded("T;" + SUMS);
                    due("the last place alone", x.windowCount(1, 5, 5, 1, 1, 99), 1);
                    due("beyond the last place", x.windowCount(1, 5, 5, 6, 6, 99), 1);
                    due("beyond the last row", x.windowCount(1, 5, 0, 6, 6, 99), 6);
                    due("beyond the last column", x.windowCount(1, 0, 5, 6, 6, 99), 6);
                    due("the whole table", x.windowCount(1, 0, 0, 6, 6, 99), 36);
                    due("all but the last lines", x.windowCount(1, 0, 0, 5, 5, 99), 25);
                    due("all but the first lines", x.windowCount(1, 1, 1, 5, 5, 99), 25);
                    due("of an empty table", x.windowCount(0, 0, 0, 6, 6, 99), 0);
                });
    }

    private static void windowCounts(Sentences s) {
        s.in("Promise 20: windowCount");
        s.holds("`i`: upper row, 0 to 5", () -> {
            SortedTables x = loaded("T" + FULL_TABLE + ";");
            due("row 0", x.windowCount(0, 0, 0, 1, 6, 0), 5);
            due("row 5", x.windowCount(0, 5, 0, 1, 6, 6), 6);
        });
        s.holds("`j`: left column, 0 to 5", () -> {
            SortedTables x = loaded("T" + FULL_TABLE + ";");
            due("column 0", x.windowCount(0, 0, 0, 6, 1, 0), 5);
            due("column 5", x.windowCount(0, 0, 5, 6, 1, 6), 6);
        });
        s.holds("`h`: number of rows, 1 to 6", () -> {
            SortedTables x = loaded("T" + FULL_TABLE + ";");
            due("one row", x.windowCount(0, 0, 0, 1, 1, 99), 1);
            due("six rows", x.windowCount(0, 0, 0, 6, 1, 99), 6);
        });
        s.holds("`w`: number of columns, 1 to 6", () -> {
            SortedTables x = loaded("T" + FULL_TABLE + ";");
            due("one column", x.windowCount(0, 5, 0, 1, 1, 99), 1);
            due("six columns", x.windowCount(0, 5, 0, 1, 6, 99), 6);
        });
        s.holds("`v`: 0 to 99", () -> {
            SortedTables x = loaded("T0099;");
            due("up to 0", x.windowCount(0, 0, 0, 6, 6, 0), 1);
            due("up to 99", x.windowCount(0, 0, 0, 6, 6, 99), 2);
        });
        s.holds("Counts the cells of a window with numbers of at most v.", () -> {
            SortedTables x = loaded("T0099/5099;");
            int[][] counts = {{0, 1}, {49, 1}, {50, 2}, {98, 2}, {99, 4}};
            for (int[] c : counts) {
                due("up to " + c[0], x.windowCount(0, 0, 0, 2, 2, c[0]), c[1]);
            }
            due("up to 98 in column 1", x.windowCount(0, 0, 1, 2, 1, 98), 0);
            due("up to 99 in column 1", x.windowCount(0, 0, 1, 2, 1, 99), 2);
        });
        s.holds("Throws `IndexOutOfBoundsException` if there is no such table",
                () -> dueNoTable("windowCount", (x, t) -> x.windowCount(t, 0, 0, 1, 1, 50)));
        s.holds("Throws `IllegalArgumentException` if another argument is out of range", () -> {
            dueRange("i of windowCount", 0, 5, (x, i) -> x.windowCount(0, i, 0, 1, 1, 50));
            dueRange("j of windowCount", 0, 5, (x, j) -> x.windowCount(0, 0, j, 1, 1, 50));
            dueRange("h of windowCount", 1, 6, (x, h) -> x.windowCount(0, 0, 0, h, 1, 50));
            dueRange("w of windowCount", 1, 6, (x, w) -> x.windowCount(0, 0, 0, 1, w, 50));
            dueRange("v of windowCount", 0, 99, (x, v) -> x.windowCount(0, 0, 0, 1, 1, v));
        });
    }

    private static void windowKths(Sentences s) {
        s.in("Promise 21: windowKth");
        s.holds("`i`: upper row, 0 to 5", () -> {
            SortedTables x = loaded("T" + FULL_TABLE + ";");
            due("the last of row 0", x.windowKth(0, 0, 0, 1, 6, 5), 1);
            due("the last of row 5", x.windowKth(0, 5, 0, 1, 6, 5), 6);
        });
        s.holds("`j`: left column, 0 to 5", () -> {
            SortedTables x = loaded("T" + FULL_TABLE + ";");
            due("the last of column 0", x.windowKth(0, 0, 0, 6, 1, 5), 1);
            due("the last of column 5", x.windowKth(0, 0, 5, 6, 1, 5), 6);
        });
        s.holds("`h`: number of rows, 1 to 6", () -> {
            SortedTables x = loaded("T" + FULL_TABLE + ";");
            due("the last of one row", x.windowKth(0, 0, 5, 1, 1, 0), 1);
            due("beyond one row", x.windowKth(0, 0, 5, 1, 1, 1), NONE);
            due("the last of six rows", x.windowKth(0, 0, 5, 6, 1, 5), 6);
        });
        s.holds("`w`: number of columns, 1 to 6", () -> {
            SortedTables x = loaded("T" + FULL_TABLE + ";");
            due("the last of one column", x.windowKth(0, 5, 0, 1, 1, 0), 1);
            due("beyond one column", x.windowKth(0, 5, 0, 1, 1, 1), NONE);
            due("the last of six columns", x.windowKth(0, 5, 0, 1, 6, 5), 6);
        });
        s.holds("`k`: 0 or greater", () -> {
            SortedTables x = loaded("T" + FULL_TABLE + ";");
            due("the first", x.windowKth(0, 0, 0, 6, 6, 0), 0);
            due("the last", x.windowKth(0, 0, 0, 6, 6, 35), 6);
        });
        s.holds("(its cells are ordered like those of the table)", () -> {
            SortedTables x = loaded("T000599/0699/07;");
            int[] numbers = {5, 6, 7, 99, 99};
            int[] narrow = {6, 99};
            for (int k = 0; k < narrow.length; k++) {
                due("row 1, " + k, x.windowKth(0, 1, 0, 1, 6, k), narrow[k]);
            }
            for (int k = 0; k < numbers.length; k++) {
                due("all but the first, " + k, x.windowKth(0, 0, 0, 6, 6, k + 1), numbers[k]);
            }
        });
        s.holds("NONE if the window has not so many cells.", () -> {
            SortedTables x = loaded("T0099/5099;");
            int[] numbers = {0, 50, 99, 99, NONE, NONE};
            for (int k = 0; k < numbers.length; k++) {
                due("windowKth of " + k, x.windowKth(0, 0, 0, 6, 6, k), numbers[k]);
            }
            due("windowKth of the greatest int", x.windowKth(0, 0, 0, 6, 6, MOST), NONE);
            due("windowKth of no cells", x.windowKth(0, 2, 2, 4, 4, 0), NONE);
            due("windowKth of an empty table", x.windowKth(1, 0, 0, 6, 6, 0), NONE);
            due("windowKth of the number 0", x.windowKth(0, 0, 0, 1, 1, 0), 0);
        });
        s.holds("Throws `IndexOutOfBoundsException` if there is no such table",
                () -> dueNoTable("windowKth", (x, t) -> x.windowKth(t, 0, 0, 1, 1, 0)));
        s.holds("Throws `IllegalArgumentException` if another argument is out of range", () -> {
            dueRange("i of windowKth", 0, 5, (x, i) -> x.windowKth(0, i, 0, 1, 1, 0));
            dueRange("j of windowKth", 0, 5, (x, j) -> x.windowKth(0, 0, j, 1, 1, 0));
            dueRange("h of windowKth", 1, 6, (x, h) -> x.windowKth(0, 0, 0, h, 1, 0));
            dueRange("w of windowKth", 1, 6, (x, w) -> x.windowKth(0, 0, 0, 1, w, 0));
            dueNotNegative("k of windowKth", (x, k) -> x.windowKth(0, 0, 0, 1, 1, k));
        });
    }
}
