import java.util.List;
import java.util.Random;
import java.util.function.Consumer;

/** What the document says of tables and exceptions, and the promises 1, 6, 7 and 8. */
final class TableBoundaries extends Checks {
    private static final String NINETIES = "T" + Shapes.text(new int[] {6, 6, 6, 6, 6, 6}, 99) + ";";

    static void test(Sentences s) {
        use(s);
        forms(s);
        cornersAndGaps(s);
        order(s);
        exceptions(s);
        newObject(s);
        about(s);
        cell(s);
        size(s);
    }

    private static void use(Sentences s) {
        s.in("What it is");
        s.holds("An object is used for at most 512 calls after it has been made", () -> {
            SortedTables x = new SortedTables();
            for (int k = 0; k < 255; k++) {
                due("insert, calls " + 2 * k, x.insert(k % 2, k % 100), 0);
                due("undo, calls " + 2 * k, x.undo(), 0);
            }
            due("insert, call 511", x.insert(1, 5), 0);
            due("about, call 512", x.about(1, 2), 1);
        });
        s.in("EXCEPTIONS");
        s.holds("`NONE = -9`: There is no such result.", () -> {
            due("NONE", SortedTables.NONE, -9);
            due("kth of an empty table", new SortedTables().kth(0, 0, false), -9);
        });
    }

    // ---- the form of tables

    private static void forms(Sentences s) {
        s.in("TABLES");
        s.holds("There are two tables, 0 and 1.", () -> {
            SortedTables x = new SortedTables();
            x.insert(0, 5);
            dueTables("insert(0, 5)", x, "T05;");
            x.insert(1, 6);
            dueTables("insert(1, 6)", x, "T05;06");
            dueIndex("insert(-1, 7)", x, o -> o.insert(-1, 7));
            dueIndex("insert(2, 7)", x, o -> o.insert(2, 7));
        });
        s.holds("A table has at most 6 rows and at most 6 columns, numbered from 0.",
                TableBoundaries::sixBySix);
        s.holds("Each row begins at column 0, and no row is longer than the row above it",
                TableBoundaries::keepForm);
        s.holds("rows without cells do not exist", () -> {
            SortedTables x = loaded("T01/02;");
            x.remove(0, 1, 0);
            due("the number of rows", x.about(0, 0), 1);
            due("the length of row 1", x.size(0, 1, false), 0);
            dueIndex("cell(0, 1, 0)", x, o -> o.cell(0, 1, 0));
            due("the last gap", x.corner(0, 1, true), 10);
            x.remove(0, 0, 0);
            due("the number of rows then", x.about(0, 0), 0);
            due("the number of columns then", x.about(0, 1), 0);
        });
        s.holds("Each cell has a number from 0 to 99.", () -> {
            SortedTables x = new SortedTables();
            x.insert(0, 0);
            x.insert(0, 99);
            x.change(0, 0, 0, 99);
            x.change(0, 0, 1, 0);
            dueTables("numbers at both ends", x, "T0099;");
            dueArgument("insert(0, -1)", x, o -> o.insert(0, -1));
            dueArgument("insert(0, 100)", x, o -> o.insert(0, 100));
            dueArgument("change(0, 0, 0, -1)", x, o -> o.change(0, 0, 0, -1));
            dueArgument("change(0, 0, 0, 100)", x, o -> o.change(0, 0, 0, 100));
        });
        s.holds("In each row the numbers do not decrease from left to right, and in each column "
                + "they do not decrease downwards.", TableBoundaries::keepOrder);
        s.holds("Both tables are empty at first.", () -> {
            SortedTables x = new SortedTables();
            for (int t = 0; t < 2; t++) {
                due("the cells of table " + t, x.about(t, 2), 0);
                for (int place : Shapes.places()) {
                    int table = t;
                    due("cell of table " + t + " at " + place,
                            answer(x, o -> o.cell(table, place / 10, place % 10)),
                            IndexOutOfBoundsException.class.getName());
                }
            }
        });
    }

    private static void sixBySix() {
        for (int t = 0; t < 2; t++) {
            int table = t;
            SortedTables x = new SortedTables();
            for (int k = 1; k <= 36; k++) {
                x.insert(t, 99 - k);
                dueAtMostSix("rows of " + k + " cells", x.about(t, 0));
                dueAtMostSix("columns of " + k + " cells", x.about(t, 1));
                due("the cells after " + k, x.about(t, 2), k);
            }
            due("rows of a full table", x.about(t, 0), 6);
            due("columns of a full table", x.about(t, 1), 6);
            due("the last row", x.size(t, 5, false), 6);
            due("the last column", x.size(t, 5, true), 6);
            due("the cell in the last row and column", x.cell(t, 5, 5), 98);
            dueState("insert into a full table", x, o -> o.insert(table, 5));
            dueIndex("cell in row 6", x, o -> o.cell(table, 6, 0));
            dueIndex("cell in column 6", x, o -> o.cell(table, 0, 6));
        }
    }

    private static void dueAtMostSix(String told, int lines) {
        due(told, Math.min(6, lines), lines);
    }

    private static void someAction(Random random, SortedTables x) {
        int t = random.nextInt(2);
        int i = random.nextInt(3);
        int j = random.nextInt(3);
        int v = random.nextInt(100);
        switch (random.nextInt(10)) {
            case 0:
                answer(x, o -> o.remove(t, i, j));
                break;
            case 1:
                answer(x, o -> o.change(t, i, j, v));
                break;
            case 2:
                answer(x, o -> o.transfer(t, i, j));
                break;
            case 3:
                x.transpose(t);
                break;
            case 4:
                x.exchange();
                break;
            default:
                answer(x, o -> o.insert(t, v));
        }
    }

    private static void keepForm() {
        for (int run = 0; run < 40; run++) {
            SortedTables x = new SortedTables();
            Random random = new Random(run);
            for (int k = 0; k < 36; k++) {
                someAction(random, x);
                for (int t = 0; t < 2; t++) {
                    dueForm(x, t);
                }
            }
        }
        dueForm(loaded("T000000000000/000000000000;"), 0);
        due("a longer row", write("T01/0101;").errorPosition(), 6);
    }

    private static void dueForm(SortedTables x, int t) {
        int above = 6;
        for (int i = 0; i < 6; i++) {
            int length = x.size(t, i, false);
            if (length > above) {
                fault("row " + i + " has " + length + " cells, the one above " + above);
            }
            above = length;
        }
    }

    private static void keepOrder() {
        SortedTables equal = new SortedTables();
        for (int k = 0; k < 36; k++) {
            equal.insert(0, 7);
        }
        due("36 equal numbers", show(equal, 0), Shapes.text(new int[] {6, 6, 6, 6, 6, 6}, 7));
        for (int run = 0; run < 200; run++) {
            SortedTables x = new SortedTables();
            Random random = new Random(run + 1000);
            for (int k = 0; k < 60; k++) {
                someAction(random, x);
            }
            String text = show(x);
            // The reader refuses what is not sorted, and is tested on its own.
            due("the order of " + text, write(text).errorPosition(), NONE);
        }
        due("a row that decreases", write("T0504;").errorPosition(), 4);
        due("a column that decreases", write("T05/04;").errorPosition(), 5);
        due("a row and a column that do not", write("T0505/05;").errorPosition(), NONE);
    }

    // ---- corners, gaps, order

    private static void cornersAndGaps(Sentences s) {
        s.holds("A corner is a cell with no cell to its right and none below it.", () -> {
            for (int[] lengths : Shapes.all()) {
                dueEnds(lengths, false, Shapes.corners(lengths));
            }
        });
        s.holds("A gap is a place without a cell, within 6 rows and 6 columns", () -> {
            dueEnds(new int[] {6, 0, 0, 0, 0, 0}, true, List.of(10));
            dueEnds(new int[] {1, 1, 1, 1, 1, 1}, true, List.of(1));
            dueEnds(new int[] {6, 6, 6, 6, 6, 5}, true, List.of(55));
            dueEnds(new int[] {6, 6, 6, 6, 6, 6}, true, List.of());
        });
        s.holds("it is the first place of the first row without cells, or the place behind the last "
                + "cell of a row that is row 0 or shorter than the row above it", () -> {
                    for (int[] lengths : Shapes.all()) {
                        dueEnds(lengths, true, Shapes.gaps(lengths));
                    }
                });
        s.holds("(So an empty table has one gap, the place (0, 0).)", () -> {
            SortedTables x = new SortedTables();
            for (int t = 0; t < 2; t++) {
                due("the gaps of an empty table", x.about(t, 7), 1);
                due("the gap of an empty table", x.corner(t, 0, true), 0);
                due("another gap of an empty table", x.corner(t, 1, true), NONE);
            }
        });
    }

    private static void dueEnds(int[] lengths, boolean gap, List<Integer> want) {
        String table = Shapes.text(lengths, 0);
        for (int t = 0; t < 2; t++) {
            SortedTables x = loaded(t == 0 ? "T" + table + ";00" : "T00;" + table);
            String told = (gap ? "gaps of " : "corners of ") + table;
            due("the number of " + told, x.about(t, gap ? 7 : 6), want.size());
            for (int k = 0; k < want.size(); k++) {
                due(told, x.corner(t, k, gap), want.get(k));
            }
            due("one more of the " + told, x.corner(t, want.size(), gap), NONE);
        }
    }

    private static void order(Sentences s) {
        s.holds("The cells of a table are ordered by their numbers; among equal numbers by rows, "
                + "among these by columns.", () -> {
                    for (int[] lengths : Shapes.all()) {
                        dueByRows(lengths);
                    }
                    SortedTables x = loaded("T010102/0102/02;");
                    int[] places = {0, 1, 10, 2, 11, 20};
                    for (int k = 0; k < places.length; k++) {
                        due("kth(0, " + k + ", true)", x.kth(0, k, true), places[k]);
                    }
                });
        s.holds("The k-th cell (k from 0) is the one with k cells before it in this order.", () -> {
            SortedTables x = loaded("T010102/0102/02;");
            for (int k = 0; k < 6; k++) {
                int place = x.kth(0, k, true);
                due("rank at " + place, x.rank(0, place / 10, place % 10), k);
            }
            due("kth(0, 6, true)", x.kth(0, 6, true), NONE);
        });
    }

    private static void dueByRows(int[] lengths) {
        SortedTables x = loaded("T" + Shapes.text(lengths, 50) + ";");
        int k = 0;
        for (int place : Shapes.places()) {
            if (Shapes.has(lengths, place / 10, place % 10)) {
                due("kth(0, " + k + ", true) of equal numbers", x.kth(0, k, true), place);
                k++;
            }
        }
    }

    // ---- exceptions

    private static void exceptions(Sentences s) {
        s.in("EXCEPTIONS");
        s.holds("IndexOutOfBoundsException means that a table or a cell does not exist, or that a "
                + "slot is not 0 or 1.", () -> {
                    SortedTables x = busy();
                    dueIndex("transpose(2)", x, o -> o.transpose(2));
                    dueIndex("remove(0, 2, 0)", x, o -> o.remove(0, 2, 0));
                    dueIndex("save(2)", x, o -> o.save(2));
                });
        s.holds("IllegalArgumentException means that another argument is out of its range.", () -> {
            SortedTables x = busy();
            dueArgument("count(0, 100)", x, o -> o.count(0, 100));
            dueArgument("pairs(199)", x, o -> o.pairs(199));
            dueArgument("simulate(1, 0)", x, o -> o.simulate(1, 0));
        });
        s.holds("If several exceptions apply to a call, the one that its description names first is "
                + "thrown.", TableBoundaries::throwTheFirst);
        s.holds("A call that throws an exception changes nothing.",
                TableBoundaries::refuseWithoutTraces);
    }

    private static void throwTheFirst() {
        SortedTables x = busyAndFull(0);
        first("about(2, 8)", x, o -> o.about(2, 8));
        first("size(2, 6, true)", x, o -> o.size(2, 6, true));
        first("insert(2, 100)", x, o -> o.insert(2, 100));
        first("change(2, 0, 0, 100)", x, o -> o.change(2, 0, 0, 100));
        first("change(1, 1, 0, 100)", x, o -> o.change(1, 1, 0, 100));
        first("transfer(1, 1, 0) into a full table", x, o -> o.transfer(1, 1, 0));
        first("count(2, 100)", x, o -> o.count(2, 100));
        first("walk(2, 100, 3)", x, o -> o.walk(2, 100, 3));
        first("kth(2, -1, true)", x, o -> o.kth(2, -1, true));
        first("windowCount(2, ..)", x, o -> o.windowCount(2, 6, 6, 0, 0, 100));
        first("windowKth(2, ..)", x, o -> o.windowKth(2, 6, 6, 0, 0, -1));
        first("corner(2, -1, true)", x, o -> o.corner(2, -1, true));
        first("path(2, 2)", x, o -> o.path(2, 2));
        first("ifInserted(2, 100, true)", x, o -> o.ifInserted(2, 100, true));
        first("restore(2) while nothing is saved", new SortedTables(), o -> o.restore(2));
        dueArgument("insert(0, 100) without a gap", x, o -> o.insert(0, 100));
        dueArgument("append(256) to a full text", write("T".repeat(160)), o -> o.append(256));
    }

    private static void first(String call, SortedTables x, Consumer<SortedTables> run) {
        dueException(call, IndexOutOfBoundsException.class, x, run);
    }

    private static void refuseWithoutTraces() {
        refuseIndex("remove(0, 2, 0)", o -> o.remove(0, 2, 0));
        refuseIndex("change(0, 2, 0, 5)", o -> o.change(0, 2, 0, 5));
        refuseIndex("transfer(0, 2, 0)", o -> o.transfer(0, 2, 0));
        refuseIndex("transpose(2)", o -> o.transpose(2));
        refuseIndex("save(2)", o -> o.save(2));
        refuseIndex("restore(2)", o -> o.restore(2));
        refuseArgument("append(256)", o -> o.append(256));
        refuseArgument("insert(0, 100)", o -> o.insert(0, 100));
        refuseArgument("change(0, 0, 0, 100)", o -> o.change(0, 0, 0, 100));
        refuseArgument("runScript(1, 100000)", o -> o.runScript(1, 100000));
        refuseArgument("simulate(1, 61)", o -> o.simulate(1, 61));
        dueRefused("insert(0, 5)", IllegalStateException.class, () -> busyAndFull(0),
                o -> o.insert(0, 5));
        dueRefused("transfer(1, 0, 0)", IllegalStateException.class, () -> busyAndFull(0),
                o -> o.transfer(1, 0, 0));
        dueRefused("load()", IllegalStateException.class, TableBoundaries::busyWithBadText,
                SortedTables::load);
    }

    private static SortedTables busyWithBadText() {
        SortedTables x = busy();
        x.append('/');
        x.append('0');
        return x;
    }

    private static void refuseIndex(String call, Consumer<SortedTables> run) {
        dueRefused(call, IndexOutOfBoundsException.class, Checks::busy, run);
    }

    private static void refuseArgument(String call, Consumer<SortedTables> run) {
        dueRefused(call, IllegalArgumentException.class, Checks::busy, run);
    }

    // ---- promises

    private static void newObject(Sentences s) {
        s.in("Promise 1: A new object");
        s.holds("Creates two empty tables.", () -> {
            SortedTables busy = busy();
            SortedTables x = new SortedTables();
            dueTables("new", x, "T;");
            due("the text of a new object", x.clearText(), 0);
            dueState("undo() of a new object", x, SortedTables::undo);
            dueState("restore(0) of a new object", x, o -> o.restore(0));
            dueState("restore(1) of a new object", x, o -> o.restore(1));
            x.insert(0, 1);
            dueTables("calls of another object", busy, "T1520/3040;5060");
        });
    }

    private static void about(Sentences s) {
        s.in("Promise 6: about");
        s.holds("`t`: table, 0 or 1", () -> {
            SortedTables x = loaded("T0102;" + FULL_TABLE);
            due("the cells of table 0", x.about(0, 2), 2);
            due("the cells of table 1", x.about(1, 2), 36);
        });
        s.holds("`what`: 0: the number of its rows; 1: of its columns; 2: of its cells; 3: its "
                + "smallest number; 4: its greatest number; 5: the sum of its numbers; 6: the number "
                + "of its corners; 7: of its gaps", TableBoundaries::aboutEachShape);
        s.holds("NONE for what = 3 and 4 if the table is empty.", () -> {
            int[] empty = {0, 0, 0, NONE, NONE, 0, 0, 1};
            SortedTables never = new SortedTables();
            SortedTables again = busyAndEmpty();
            for (int what = 0; what < 8; what++) {
                for (int t = 0; t < 2; t++) {
                    due("about(" + t + ", " + what + ")", never.about(t, what), empty[what]);
                    due("about of an emptied table", again.about(t, what), empty[what]);
                }
            }
            due("the smallest number 0", loaded("T00;").about(0, 3), 0);
            due("the greatest number 0", loaded("T00;").about(0, 4), 0);
        });
        s.holds("Throws `IndexOutOfBoundsException` if there is no such table",
                () -> dueNoTable("about", (x, t) -> x.about(t, 3)));
        s.holds("Throws `IllegalArgumentException` if what is not 0 to 7",
                () -> dueRange("about", 0, 7, (x, what) -> x.about(1, what)));
    }

    private static void aboutEachShape() {
        for (int[] lengths : Shapes.all()) {
            int cells = Shapes.cells(lengths);
            SortedTables x = loaded("T;" + Shapes.text(lengths, 99));
            int[] want = {Shapes.rows(lengths), lengths[0], cells, cells == 0 ? NONE : 99,
                cells == 0 ? NONE : 99, 99 * cells, Shapes.corners(lengths).size(),
                Shapes.gaps(lengths).size()};
            for (int what = 0; what < want.length; what++) {
                due("about(1, " + what + ") of " + Shapes.text(lengths, 99), x.about(1, what),
                        want[what]);
            }
        }
        due("the sum of a full table", loaded(NINETIES).about(0, 5), 3564);
        due("the greatest number at the upper corner", loaded("T0199/02/03;").about(0, 4), 99);
        due("the greatest number at the inner corner", loaded("T010203/0499/05;").about(0, 4), 99);
        due("the greatest number at the lower corner", loaded("T0102/0304/99;").about(0, 4), 99);
    }

    private static void cell(Sentences s) {
        s.in("Promise 7: cell");
        s.holds("Returns the number of a cell.", () -> {
            SortedTables x = new SortedTables();
            x.insert(1, 0);
            for (int v = 0; v < 100; v++) {
                x.change(1, 0, 0, v);
                due("cell(1, 0, 0) of " + v, x.cell(1, 0, 0), v);
            }
        });
        s.holds("Throws `IndexOutOfBoundsException` if there is no such table or cell", () -> {
            dueNoTable("cell", (x, t) -> x.cell(t, 0, 0));
            dueNoCell("cell", (x, i, j) -> x.cell(0, i, j));
            for (int[] lengths : Shapes.all()) {
                dueJustTheCells(lengths);
            }
        });
    }

    private static void dueJustTheCells(int[] lengths) {
        SortedTables x = loaded("T" + Shapes.text(lengths, 5) + ";");
        for (int i = -1; i < 7; i++) {
            for (int j = -1; j < 7; j++) {
                int row = i;
                int column = j;
                due("cell(0, " + i + ", " + j + ")", answer(x, o -> o.cell(0, row, column)),
                        Shapes.has(lengths, i, j) ? "5" : IndexOutOfBoundsException.class.getName());
            }
        }
    }

    private static void size(Sentences s) {
        s.in("Promise 8: size");
        s.holds("`k`: number of the row or column, 0 to 5", () -> {
            SortedTables x = loaded("T" + "00".repeat(6) + ";00/00/00/00/00/00");
            int[][] sizes = {{0, 6, 1}, {5, 0, 1}};
            for (int[] z : sizes) {
                due("row " + z[0] + " of a row", x.size(0, z[0], false), z[1]);
                due("column " + z[0] + " of a row", x.size(0, z[0], true), z[2]);
                due("column " + z[0] + " of a column", x.size(1, z[0], true), z[1]);
                due("row " + z[0] + " of a column", x.size(1, z[0], false), z[2]);
            }
        });
        s.holds("Returns the number of its cells (0 if it does not exist).", () -> {
            for (int[] lengths : Shapes.all()) {
                SortedTables x = loaded("T" + Shapes.text(lengths, 5) + ";");
                for (int k = 0; k < 6; k++) {
                    due("size(0, " + k + ", false)", x.size(0, k, false), lengths[k]);
                    due("size(0, " + k + ", true)", x.size(0, k, true), Shapes.column(lengths, k));
                }
            }
        });
        s.holds("Throws `IndexOutOfBoundsException` if there is no such table", () -> {
            dueNoTable("size of a row", (x, t) -> x.size(t, 0, false));
            dueNoTable("size of a column", (x, t) -> x.size(t, 0, true));
        });
        s.holds("Throws `IllegalArgumentException` if k is out of range", () -> {
            dueRange("size of a row", 0, 5, (x, k) -> x.size(0, k, false));
            dueRange("size of a column", 0, 5, (x, k) -> x.size(0, k, true));
        });
    }
}
