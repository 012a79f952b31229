import java.util.List;
import java.util.function.Supplier;

/** The promises 16, 18 and 19, and those of both tables, 22 to 24. */
final class QuestionBoundaries extends Checks {
    private static final String FULL_OF_99 = Shapes.text(new int[] {6, 6, 6, 6, 6, 6}, 99);

    static void test(Sentences s) {
        count(s);
        changeNothing(s);
        kth(s);
        rank(s);
        kthOfBoth(s);
        pairs(s);
        kthSum(s);
    }

    private static void count(Sentences s) {
        s.in("Promise 16: count");
        s.holds("`v`: 0 to 99", () -> {
            SortedTables x = loaded("T0099;00/99");
            for (int t = 0; t < 2; t++) {
                due("count(" + t + ", 0)", x.count(t, 0), 1);
                due("count(" + t + ", 99)", x.count(t, 99), 2);
            }
        });
        s.holds("Counts the cells with numbers of at most v.", () -> {
            SortedTables x = loaded("T005099/5099/50;" + FULL_TABLE);
            int[][] counts = {{0, 1}, {1, 1}, {49, 1}, {50, 4}, {51, 4}, {98, 4}, {99, 6}};
            for (int[] c : counts) {
                due("count(0, " + c[0] + ")", x.count(0, c[0]), c[1]);
            }
            int[] full = {25, 27, 29, 31, 33, 35, 36};
            for (int v = 0; v < full.length; v++) {
                due("count(1, " + v + ") of a full table", x.count(1, v), full[v]);
            }
            SortedTables nineties = loaded("T" + FULL_OF_99 + ";");
            due("count(0, 98) of 99s", nineties.count(0, 98), 0);
            due("count(0, 99) of 99s", nineties.count(0, 99), 36);
            due("count(1, 0) of an empty table", nineties.count(1, 0), 0);
            due("count(1, 99) of an empty table", nineties.count(1, 99), 0);
        });
        s.holds("Throws `IndexOutOfBoundsException` if there is no such table",
                () -> dueNoTable("count", (x, t) -> x.count(t, 50)));
        s.holds("Throws `IllegalArgumentException` if v is out of range",
                () -> dueRange("count", 0, 99, (x, v) -> x.count(1, v)));
    }

    private static void changeNothing(Sentences s) {
        s.holds("these and all following methods up to the save slots change nothing", () -> {
            List<Supplier<SortedTables>> makers = List.of(Checks::busy, () -> busyAndFull(0),
                    () -> busyAndFull(1), Checks::busyAndEmpty);
            for (Supplier<SortedTables> maker : makers) {
                for (int t = 0; t < 2; t++) {
                    askOfTable(maker, t);
                }
                askOfBoth(maker);
            }
            for (int t = 0; t < 2; t++) {
                askOfCells(Checks::busy, t);
                askOfCells(() -> busyAndFull(0), t);
                askOfCells(() -> busyAndFull(1), t);
            }
        });
    }

    private static void askOfTable(Supplier<SortedTables> maker, int t) {
        dueUnchanged("count", maker, o -> o.count(t, 50));
        dueUnchanged("walk", maker, o -> o.walk(t, 50, 2));
        dueUnchanged("kth", maker, o -> o.kth(t, 0, true));
        dueUnchanged("windowCount", maker, o -> o.windowCount(t, 0, 0, 6, 6, 99));
        dueUnchanged("windowKth", maker, o -> o.windowKth(t, 0, 0, 6, 6, 0));
        dueUnchanged("corner", maker, o -> o.corner(t, 0, false));
        dueUnchanged("corner", maker, o -> o.corner(t, 0, true));
        dueUnchanged("fillings", maker, o -> o.fillings(t));
        dueUnchanged("path", maker, o -> o.path(t, 1));
        dueUnchanged("ifInserted", maker, o -> o.ifInserted(t, 0, false));
        dueUnchanged("ifInserted", maker, o -> o.ifInserted(t, 0, true));
    }

    private static void askOfBoth(Supplier<SortedTables> maker) {
        dueUnchanged("kthOfBoth", maker, o -> o.kthOfBoth(0, true));
        dueUnchanged("pairs", maker, o -> o.pairs(198));
        dueUnchanged("kthSum", maker, o -> o.kthSum(0));
        dueUnchanged("runScript", maker, o -> o.runScript(3, 100054000010006L));
        dueUnchanged("runScript", maker, o -> o.runScript(3, 200003100021000L));
        dueUnchanged("simulate", maker, o -> o.simulate(5, 60));
    }

    private static void askOfCells(Supplier<SortedTables> maker, int t) {
        dueUnchanged("rank", maker, o -> o.rank(t, 0, 1));
        dueUnchanged("hook", maker, o -> o.hook(t, 0, 1));
        dueUnchanged("ifRemoved", maker, o -> o.ifRemoved(t, 0, 0));
    }

    // ---- k-th cells

    private static void kth(Sentences s) {
        s.in("Promise 18: kth");
        s.holds("`k`: 0 or greater", () -> {
            SortedTables x = loaded("T0507/06;");
            int[] numbers = {5, 6, 7};
            int[] places = {0, 10, 1};
            for (int k = 0; k < 3; k++) {
                due("kth(0, " + k + ", false)", x.kth(0, k, false), numbers[k]);
                due("kth(0, " + k + ", true)", x.kth(0, k, true), places[k]);
            }
        });
        s.holds("NONE if there are not so many cells.", () -> {
            for (int[] lengths : Shapes.all()) {
                dueSoMany(lengths);
            }
            for (int v = 0; v < 100; v++) {
                SortedTables x = loaded("T" + twoDigits(v) + ";");
                due("kth of the number " + v, x.kth(0, 0, false), v);
                due("no second number than " + v, x.kth(0, 1, false), NONE);
            }
        });
        s.holds("Throws `IndexOutOfBoundsException` if there is no such table", () -> {
            dueNoTable("kth number", (x, t) -> x.kth(t, 0, false));
            dueNoTable("kth place", (x, t) -> x.kth(t, 0, true));
        });
        s.holds("Throws `IllegalArgumentException` if k is negative", () -> {
            dueNotNegative("kth number", (x, k) -> x.kth(0, k, false));
            dueNotNegative("kth place", (x, k) -> x.kth(0, k, true));
            dueRefused("kth of an empty table", IllegalArgumentException.class,
                    Checks::busyAndEmpty, o -> o.kth(0, -1, true));
        });
    }

    private static void dueSoMany(int[] lengths) {
        int cells = Shapes.cells(lengths);
        SortedTables x = loaded("T;" + Shapes.text(lengths, 42));
        if (cells > 0) {
            due("the last number", x.kth(1, cells - 1, false), 42);
            int lastRow = Shapes.rows(lengths) - 1;
            due("the last place", x.kth(1, cells - 1, true), 10 * lastRow + lengths[lastRow] - 1);
        }
        for (int k : new int[] {cells, cells + 1, 36, 100, MOST}) {
            due("the number of " + k, x.kth(1, k, false), NONE);
            due("the place of " + k, x.kth(1, k, true), NONE);
        }
    }

    private static void rank(Sentences s) {
        s.in("Promise 19: rank");
        s.holds("Returns k for the k-th cell.", () -> {
            int[] lengths = {6, 6, 6, 6, 6, 6};
            SortedTables x = loaded("T" + Shapes.text(lengths, 42) + ";" + FULL_TABLE);
            for (int place : Shapes.places()) {
                int i = place / 10;
                int j = place % 10;
                due("rank at " + place, x.rank(0, i, j), 6 * i + j);
                int k = x.rank(1, i, j);
                due("the place of rank " + k, x.kth(1, k, true), place);
            }
            due("rank of the only cell", loaded("T99;").rank(0, 0, 0), 0);
            due("rank of a 0 behind a 0", loaded("T0000;").rank(0, 0, 1), 1);
            due("rank of a 99 below a 99", loaded("T0099/99;").rank(0, 1, 0), 2);
            due("rank of a 1 below a 2", loaded("T0002/01;").rank(0, 1, 0), 1);
        });
        s.holds("Throws `IndexOutOfBoundsException` if there is no such table or cell", () -> {
            dueNoTable("rank", (x, t) -> x.rank(t, 0, 0));
            dueNoCell("rank", (x, i, j) -> x.rank(0, i, j));
        });
    }

    // ---- both tables

    private static void dueOrderOfBoth(String text, int[][] numbersAndTables) {
        SortedTables x = loaded(text);
        int cells = numbersAndTables.length;
        for (int k = 0; k < cells; k++) {
            due("kthOfBoth(" + k + ", false) of " + text, x.kthOfBoth(k, false),
                    numbersAndTables[k][0]);
            due("kthOfBoth(" + k + ", true) of " + text, x.kthOfBoth(k, true),
                    numbersAndTables[k][1]);
        }
        for (int k : new int[] {cells, cells + 1, 72, 1000, MOST}) {
            due("kthOfBoth(" + k + ", false) of " + text, x.kthOfBoth(k, false), NONE);
            due("kthOfBoth(" + k + ", true) of " + text, x.kthOfBoth(k, true), NONE);
        }
    }

    private static void kthOfBoth(Sentences s) {
        s.in("Promise 22: kthOfBoth");
        s.holds("`k`: 0 or greater",
                () -> dueOrderOfBoth("T07;05", new int[][] {{5, 1}, {7, 0}}));
        s.holds("among equal numbers those of table 0 first, and within a table by the order of its "
                + "cells", () -> {
                    dueOrderOfBoth("T0505;0505", new int[][] {{5, 0}, {5, 0}, {5, 1}, {5, 1}});
                    dueOrderOfBoth("T0007/05;0005/05", new int[][] {{0, 0}, {0, 1}, {5, 0}, {5, 1},
                        {5, 1}, {7, 0}});
                    dueOrderOfBoth("T99;0099", new int[][] {{0, 1}, {99, 0}, {99, 1}});
                    dueOrderOfBoth("T06;0506", new int[][] {{5, 1}, {6, 0}, {6, 1}});
                    dueOrderOfBoth("T0506;06", new int[][] {{5, 0}, {6, 0}, {6, 1}});
                    for (int v = 0; v < 100; v++) {
                        String number = twoDigits(v);
                        dueOrderOfBoth("T" + number + ";" + number, new int[][] {{v, 0}, {v, 1}});
                    }
                });
        s.holds("NONE if there are not so many cells.", () -> {
            dueOrderOfBoth("T;", new int[0][]);
            dueOrderOfBoth("T00;", new int[][] {{0, 0}});
            dueOrderOfBoth("T;00", new int[][] {{0, 1}});
            dueOrderOfBoth("T;99", new int[][] {{99, 1}});
            int[][] full = new int[72][];
            for (int k = 0; k < 72; k++) {
                full[k] = new int[] {99, k / 36};
            }
            dueOrderOfBoth("T" + FULL_OF_99 + ";" + FULL_OF_99, full);
        });
        s.holds("Throws `IllegalArgumentException` if k is negative", () -> {
            dueNotNegative("kthOfBoth, number", (x, k) -> x.kthOfBoth(k, false));
            dueNotNegative("kthOfBoth, table", (x, k) -> x.kthOfBoth(k, true));
        });
    }

    private static void pairs(Sentences s) {
        s.in("Promise 23: pairs");
        s.holds("`s`: 0 to 198", () -> {
            SortedTables x = loaded("T0099;0099");
            due("pairs(0)", x.pairs(0), 1);
            due("pairs(197)", x.pairs(197), 3);
            due("pairs(198)", x.pairs(198), 4);
        });
        s.holds("Returns the number of pairs whose numbers have a sum of at most s.", () -> {
            due("pairs(0) of zeros", loaded("T00;0000").pairs(0), 2);
            due("pairs(197) of 99s", loaded("T99;9999").pairs(197), 0);
            due("pairs(198) of 99s", loaded("T99;9999").pairs(198), 2);
            due("pairs(98) of 0 and 99", loaded("T00;99").pairs(98), 0);
            due("pairs(99) of 0 and 99", loaded("T00;99").pairs(99), 1);
            due("pairs(98) of 99 and 0", loaded("T99;00").pairs(98), 0);
            due("pairs(99) of 99 and 0", loaded("T99;00").pairs(99), 1);
            due("pairs(198) of empty tables", new SortedTables().pairs(198), 0);
            due("pairs(198) without table 0", loaded("T;00").pairs(198), 0);
            due("pairs(198) without table 1", loaded("T00;").pairs(198), 0);
            SortedTables full = loaded("T" + FULL_OF_99 + ";" + FULL_OF_99);
            due("pairs(197) of full tables", full.pairs(197), 0);
            due("pairs(198) of full tables", full.pairs(198), 1296);
        });
        s.holds("Throws `IllegalArgumentException` if s is out of range",
                () -> dueRange("pairs", 0, 198, SortedTables::pairs));
    }

    private static void kthSum(Sentences s) {
        s.in("Promise 24: kthSum");
        s.holds("`k`: 0 or greater", () -> {
            SortedTables x = loaded("T0099;0098");
            int[] sums = {0, 98, 99, 197, NONE};
            for (int k = 0; k < sums.length; k++) {
                due("kthSum(" + k + ")", x.kthSum(k), sums[k]);
            }
        });
        s.holds("Returns the smallest s for which pairs(s) is greater than k", () -> {
            SortedTables x = loaded("T0001/50;004999");
            int[] sums = {0, 1, 49, 50, 50, 99, 99, 100, 149};
            for (int k = 0; k < sums.length; k++) {
                due("kthSum(" + k + ")", x.kthSum(k), sums[k]);
                boolean greater = x.pairs(sums[k]) > k;
                boolean smallest = sums[k] == 0 || x.pairs(sums[k] - 1) <= k;
                due("whether kthSum(" + k + ") fits pairs", greater && smallest ? 1 : 0, 1);
            }
            due("kthSum(0) of zeros", loaded("T00;00").kthSum(0), 0);
            due("kthSum(0) of 99s", loaded("T99;99").kthSum(0), 198);
            for (int sum = 0; sum <= 198; sum++) {
                String text = "T" + twoDigits(sum / 2) + ";" + twoDigits(sum - sum / 2);
                due("kthSum(0) of " + text, loaded(text).kthSum(0), sum);
            }
        });
        s.holds("NONE if there are not so many pairs.", () -> {
            SortedTables x = loaded("T0001/50;004999");
            due("kthSum(8)", x.kthSum(8), 149);
            due("kthSum(9)", x.kthSum(9), NONE);
            due("kthSum of the greatest int", x.kthSum(MOST), NONE);
            due("kthSum(0) of empty tables", new SortedTables().kthSum(0), NONE);
            due("kthSum(0) without table 0", loaded("T;00").kthSum(0), NONE);
            due("kthSum(0) without table 1", loaded("T00;").kthSum(0), NONE);
            SortedTables full = loaded("T" + FULL_OF_99 + ";" + FULL_OF_99);
            due("kthSum(1295) of full tables", full.kthSum(1295), 198);
            due("kthSum(1296) of full tables", full.kthSum(1296), NONE);
        });
        s.holds("Throws `IllegalArgumentException` if k is negative", () -> {
            dueNotNegative("kthSum", SortedTables::kthSum);
            dueRefused("kthSum of empty tables", IllegalArgumentException.class,
                    Checks::busyAndEmpty, o -> o.kthSum(-1));
        });
    }
}
