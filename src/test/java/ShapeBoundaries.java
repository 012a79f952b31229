import java.util.Arrays;
import java.util.HashMap;
import java.util.List;
import java.util.Map;

/** The promises of shapes, paths and slides, 25 to 30. */
final class ShapeBoundaries extends Checks {
    private static final int[] SQUARE = {6, 6, 6, 6, 6, 6};

    static void test(Sentences s) {
        corner(s);
        hook(s);
        fillings(s);
        path(s);
        pathEnds(s);
        ifInserted(s);
        ifRemoved(s);
    }

    private static void corner(Sentences s) {
        s.in("Promise 25: corner");
        s.holds("Both are numbered from 0 by their rows, that of the smallest row being 0.", () -> {
            SortedTables x = loaded("T" + Shapes.text(new int[] {6, 5, 4, 3, 2, 1}, 1) + ";"
                    + Shapes.text(new int[] {5, 4, 3, 2, 1, 0}, 1));
            for (int k = 0; k < 6; k++) {
                due("corner(0, " + k + ", false)", x.corner(0, k, false), 10 * k + 5 - k);
                due("corner(1, " + k + ", true)", x.corner(1, k, true), 10 * k + 5 - k);
            }
            for (int k = 0; k < 5; k++) {
                due("corner(0, " + k + ", true)", x.corner(0, k, true), 10 * (k + 1) + 5 - k);
                due("corner(1, " + k + ", false)", x.corner(1, k, false), 10 * k + 4 - k);
            }
        });
        s.holds("NONE if there are not so many.", () -> {
            int[] far = {6, 7, 100, MOST};
            SortedTables x = loaded("T" + Shapes.text(SQUARE, 1) + ";");
            due("the corner of a full table", x.corner(0, 0, false), 55);
            due("no second corner of a full table", x.corner(0, 1, false), NONE);
            due("no gap of a full table", x.corner(0, 0, true), NONE);
            due("no corner of an empty table", x.corner(1, 0, false), NONE);
            due("the gap of an empty table", x.corner(1, 0, true), 0);
            due("no second gap of an empty table", x.corner(1, 1, true), NONE);
            for (int k : far) {
                for (int t = 0; t < 2; t++) {
                    due("corner(" + t + ", " + k + ", false)", x.corner(t, k, false), NONE);
                    due("corner(" + t + ", " + k + ", true)", x.corner(t, k, true), NONE);
                }
            }
        });
        s.holds("Throws `IndexOutOfBoundsException` if there is no such table", () -> {
            dueNoTable("corner", (x, t) -> x.corner(t, 0, false));
            dueNoTable("gap", (x, t) -> x.corner(t, 0, true));
        });
        s.holds("Throws `IllegalArgumentException` if k is negative", () -> {
            dueNotNegative("corner", (x, k) -> x.corner(0, k, false));
            dueNotNegative("gap", (x, k) -> x.corner(0, k, true));
        });
    }

    private static void hook(Sentences s) {
        s.in("Promise 26: hook");
        s.holds("Returns the number of cells to its right in its row, plus those below it in its "
                + "column, plus 1.", () -> {
                    for (int[] lengths : Shapes.all()) {
                        dueHooks(lengths);
                    }
                    due("hook of the only cell", loaded("T00;").hook(0, 0, 0), 1);
                    due("hook of the first of a full table",
                            loaded("T" + FULL_TABLE + ";").hook(0, 0, 0), 11);
                });
        s.holds("Throws `IndexOutOfBoundsException` if there is no such table or cell", () -> {
            dueNoTable("hook", (x, t) -> x.hook(t, 0, 0));
            dueNoCell("hook", (x, i, j) -> x.hook(0, i, j));
        });
    }

    private static void dueHooks(int[] lengths) {
        SortedTables x = loaded("T;" + Shapes.text(lengths, 8));
        for (int place : Shapes.places()) {
            int i = place / 10;
            int j = place % 10;
            if (Shapes.has(lengths, i, j)) {
                due("hook(1, " + i + ", " + j + ") of " + Arrays.toString(lengths),
                        x.hook(1, i, j), lengths[i] - j + Shapes.column(lengths, j) - i - 1);
            }
        }
    }

    // ---- fillings

    private static void fillings(Sentences s) {
        s.in("Promise 27: fillings");
        s.holds("Returns their number (1 for an empty table).", () -> {
            SortedTables x = busyAndEmpty();
            due("fillings(0) of an empty table", x.fillings(0), 1);
            due("fillings(1) of an empty table", x.fillings(1), 1);
            due("fillings of a cell", loaded("T00;").fillings(0), 1);
        });
        s.holds("each once, such that they increase in each row from left to right and in each column "
                + "downwards", () -> {
                    Map<List<Integer>, Long> known = new HashMap<>();
                    for (int[] lengths : Shapes.all()) {
                        SortedTables x = loaded("T" + Shapes.text(lengths, 8) + ";");
                        due("fillings of " + Arrays.toString(lengths), x.fillings(0),
                                waysToFill(lengths, known));
                    }
                });
        s.holds("Throws `IndexOutOfBoundsException` if there is no such table",
                () -> dueNoTable("fillings", SortedTables::fillings));
    }

    /** The greatest number stands at a corner; the others fill the shape without it. */
    private static long waysToFill(int[] lengths, Map<List<Integer>, Long> known) {
        List<Integer> key = Arrays.stream(lengths).boxed().toList();
        if (Shapes.cells(lengths) == 0) {
            return 1;
        }
        if (!known.containsKey(key)) {
            long ways = 0;
            for (int corner : Shapes.corners(lengths)) {
                int[] less = lengths.clone();
                less[corner / 10]--;
                ways += waysToFill(less, known);
            }
            known.put(key, ways);
        }
        return known.get(key);
    }

    // ---- paths

    private static void duePath(String table, int sum, int end) {
        SortedTables x = loaded("T;" + table);
        due("path(1, 0) of " + table, x.path(1, 0), sum);
        due("path(1, 1) of " + table, x.path(1, 1), end);
    }

    private static void path(Sentences s) {
        s.in("Promise 28: path");
        s.holds("NONE if the table is empty.", () -> {
            for (SortedTables x : List.of(new SortedTables(), busyAndEmpty())) {
                for (int t = 0; t < 2; t++) {
                    due("the sum of no path", x.path(t, 0), NONE);
                    due("the end of no path", x.path(t, 1), NONE);
                }
            }
            duePath("00", 0, 0);
            SortedTables x = loaded("T9999;");
            due("the sum of a path", x.path(0, 0), 198);
            due("no path of the other table", x.path(1, 0), NONE);
            due("no end in the other table", x.path(1, 1), NONE);
        });
        s.holds("Throws `IndexOutOfBoundsException` if there is no such table", () -> {
            dueNoTable("the sum of path", (x, t) -> x.path(t, 0));
            dueNoTable("the end of path", (x, t) -> x.path(t, 1));
        });
        s.holds("Throws `IllegalArgumentException` if what is not 0 or 1", () -> {
            dueRange("path", 0, 1, (x, what) -> x.path(0, what));
            dueRefused("path of an empty table", IllegalArgumentException.class,
                    Checks::busyAndEmpty, o -> o.path(0, 2));
        });
    }

    private static void pathEnds(Sentences s) {
        s.holds("a path begins at place (0, 0), goes from cell to cell to the right or down, and ends "
                + "at a corner", () -> {
                    for (int[] lengths : Shapes.all()) {
                        dueLongestPath(lengths);
                    }
                    duePath("010203/0405/06", 11, 20);
                    duePath("010299/0304/05", 102, 2);
                    duePath("010203/0499/05", 104, 11);
                    duePath("000000/0000/99", 99, 20);
                });
        s.holds("the greatest one has the greatest sum of the numbers of its cells", () -> {
            // A greater path that was asked for before is of no account.
            SortedTables x = loaded("T" + Shapes.text(SQUARE, 99) + ";0001/02");
            due("path(0, 0) of a full table", x.path(0, 0), 1089);
            due("path(1, 0) after it", x.path(1, 0), 2);
            due("path(1, 1) after it", x.path(1, 1), 10);
            due("path(0, 1) of the full table", x.path(0, 1), 55);
            duePath("0090/0191/02", 181, 11);
            duePath("000102/909192/93", 273, 12);
            duePath("010101/0101/02", 4, 20);
            duePath("010101/0101/01", 3, 2);
        });
        s.holds("(among several paths the corner with the smallest row)", () -> {
            duePath("0000/00", 0, 1);
            duePath("0102/02", 3, 1);
            duePath("0102/03", 4, 10);
            duePath("010305/0305/04/08", 16, 30);
            duePath("000105/0105/06", 7, 20);
            duePath("000105/0104/05", 6, 2);
            duePath("000204/0103/04", 6, 2);
            for (int[] lengths : Shapes.all()) {
                if (Shapes.cells(lengths) > 0) {
                    duePath(Shapes.text(lengths, 0), 0, Shapes.corners(lengths).get(0));
                }
            }
        });
    }

    /** All numbers are 99, so the longest path is the greatest. */
    private static void dueLongestPath(int[] lengths) {
        int longest = 0;
        int end = NONE;
        for (int corner : Shapes.corners(lengths)) {
            int cells = corner / 10 + corner % 10 + 1;
            if (cells > longest) {
                longest = cells;
                end = corner;
            }
        }
        duePath(Shapes.text(lengths, 99), end == NONE ? NONE : 99 * longest, end);
    }

    // ---- slides that are only asked for

    private static void ifInserted(Sentences s) {
        s.in("Promise 29: ifInserted");
        s.holds("`v`: 0 to 99", () -> {
            SortedTables x = loaded("T0099;0099");
            for (int t = 0; t < 2; t++) {
                due("the place of 0", x.ifInserted(t, 0, false), 10);
                due("the exchanges of 0", x.ifInserted(t, 0, true), 0);
                due("the place of 99", x.ifInserted(t, 99, false), 10);
                due("the exchanges of 99", x.ifInserted(t, 99, true), 0);
            }
        });
        s.holds("NONE if the table has no gap.", () -> {
            for (int full = 0; full < 2; full++) {
                SortedTables x = busyAndFull(full);
                for (int v : new int[] {0, 5, 99}) {
                    due("the place of " + v, x.ifInserted(full, v, false), NONE);
                    due("the exchanges of " + v, x.ifInserted(full, v, true), NONE);
                }
                due("the place in the other table", x.ifInserted(1 - full, 99, false), 10);
                due("the exchanges in the other table", x.ifInserted(1 - full, 99, true), 0);
            }
            SortedTables empty = new SortedTables();
            due("the place in an empty table", empty.ifInserted(0, 5, false), 0);
            due("the exchanges in an empty table", empty.ifInserted(0, 5, true), 0);
        });
        s.holds("true for the number of exchanges, false for its place at the end", () -> {
            SortedTables x = loaded("T" + Shapes.text(new int[] {6, 6, 6, 6, 6, 5}, 50) + ";50");
            int[][] answers = {{0, 0, 10, 0}, {0, 49, 10, 0}, {0, 50, 0, 55}, {0, 99, 0, 55},
                {1, 49, 1, 0}, {1, 50, 0, 1}, {1, 51, 0, 1}};
            for (int[] a : answers) {
                due("exchanges of " + a[1], x.ifInserted(a[0], a[1], true), a[2]);
                due("place of " + a[1], x.ifInserted(a[0], a[1], false), a[3]);
            }
        });
        s.holds("Throws `IndexOutOfBoundsException` if there is no such table",
                () -> dueNoTable("ifInserted", (x, t) -> x.ifInserted(t, 5, true)));
        s.holds("Throws `IllegalArgumentException` if v is out of range", () -> {
            dueRange("ifInserted, exchanges", 0, 99, (x, v) -> x.ifInserted(0, v, true));
            dueRange("ifInserted, place", 0, 99, (x, v) -> x.ifInserted(0, v, false));
            dueRefused("ifInserted without a gap", IllegalArgumentException.class,
                    () -> busyAndFull(0), o -> o.ifInserted(0, 100, true));
        });
    }

    private static void ifRemoved(Sentences s) {
        s.in("Promise 30: ifRemoved");
        s.holds("Returns the place at which the hole ceases to exist", () -> {
            for (int[] lengths : Shapes.all()) {
                dueEndOfHoles(lengths);
            }
        });
        s.holds("Throws `IndexOutOfBoundsException` if there is no such table or cell", () -> {
            dueNoTable("ifRemoved", (x, t) -> x.ifRemoved(t, 0, 0));
            dueNoCell("ifRemoved", (x, i, j) -> x.ifRemoved(0, i, j));
        });
    }

    /** All numbers are equal, so a hole goes down as far as it can, then to the right. */
    private static void dueEndOfHoles(int[] lengths) {
        SortedTables x = loaded("T" + Shapes.text(lengths, 0) + ";");
        for (int place : Shapes.places()) {
            int j = place % 10;
            if (Shapes.has(lengths, place / 10, j)) {
                int lowest = Shapes.column(lengths, j) - 1;
                due("ifRemoved at " + place + " of " + Arrays.toString(lengths),
                        x.ifRemoved(0, place / 10, j), 10 * lowest + lengths[lowest] - 1);
            }
        }
    }
}
