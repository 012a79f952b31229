import java.util.ArrayDeque;
import java.util.Deque;
import java.util.Random;
import java.util.function.Consumer;

/** What the document says of actions and undo, and the promises 9 to 15. */
final class ActionBoundaries extends Checks {
    private static final String FULL_BUT_LAST = FULL_TABLE.substring(0, FULL_TABLE.length() - 2);

    static void test(Sentences s) {
        actions(s);
        remembering(s);
        insert(s);
        remove(s);
        change(s);
        transfer(s);
        transpose(s);
        exchange(s);
        undo(s);
    }

    // ---- actions and undo

    /** The object's own table is told before the action and must be there again after undo. */
    private static void dueTakenBack(String call, String text, Consumer<SortedTables> action) {
        SortedTables x = loaded(text);
        x.exchange();
        x.exchange();
        action.accept(x);
        due("undo() of " + call, x.undo(), 2);
        dueTables("undo() of " + call, x, text);
    }

    private static void actions(Sentences s) {
        s.in("ACTIONS AND UNDO");
        s.holds("Each call of one of them that does not throw an exception is an action, also if "
                + "nothing becomes different", () -> {
                    dueTakenBack("change to the same number", STAIRS, o -> o.change(0, 1, 1, 5));
                    dueTakenBack("transpose of an empty table", "T;", o -> o.transpose(0));
                    dueTakenBack("transpose of a cell", "T;05", o -> o.transpose(1));
                    dueTakenBack("transpose of a square", "T0102/0203;", o -> o.transpose(0));
                    dueTakenBack("exchange of empty tables", "T;", SortedTables::exchange);
                    dueTakenBack("exchange of equal tables", "T01;01", SortedTables::exchange);
                });
        s.holds("Before each action, the tables are remembered.", () -> {
            dueTakenBack("insert(0, 4)", STAIRS, o -> o.insert(0, 4));
            dueTakenBack("insert(1, 0)", "T;", o -> o.insert(1, 0));
            dueTakenBack("remove(0, 0, 0)", STAIRS, o -> o.remove(0, 0, 0));
            dueTakenBack("remove of the only cell", "T;05", o -> o.remove(1, 0, 0));
            dueTakenBack("change(0, 0, 0, 99)", STAIRS, o -> o.change(0, 0, 0, 99));
            dueTakenBack("transfer(0, 1, 1)", STAIRS, o -> o.transfer(0, 1, 1));
            dueTakenBack("transfer(1, 0, 0)", STAIRS, o -> o.transfer(1, 0, 0));
            dueTakenBack("transpose(0)", "T010203/04;", o -> o.transpose(0));
            dueTakenBack("exchange()", STAIRS, SortedTables::exchange);
            dueTakenBack("remove of a full table", FULL_PAIR, o -> o.remove(1, 3, 3));
        });
        s.holds("(undo is none)", () -> {
            SortedTables x = loaded("T;");
            x.insert(0, 1);
            x.insert(0, 2);
            due("undo()", x.undo(), 1);
            due("undo() again", x.undo(), 0);
            dueTables("two times undo()", x, "T;");
            dueState("undo() of an undo", x, SortedTables::undo);
        });
        s.holds("undo, load and restore are not actions.", () -> {
            SortedTables x = busy();
            x.restore(0);
            dueState("undo() of restore", x, SortedTables::undo);
            x.load();
            dueState("undo() of load", x, SortedTables::undo);
            x.insert(0, 9);
            x.undo();
            dueState("undo() of undo", x, SortedTables::undo);
        });
    }

    private static void remembering(Sentences s) {
        s.holds("At most 14 states are remembered; when one more is remembered, the oldest one is "
                + "forgotten.", () -> {
                    for (int actions : new int[] {1, 13, 14, 15, 16, 27, 28, 29, 42, 43}) {
                        dueLastStates(0, actions);
                        dueLastStates(1, actions);
                    }
                    for (int run = 0; run < 60; run++) {
                        dueLikeStack(new Random(run));
                    }
                });
        s.holds("The text and the save slots are not part of the state.", () -> {
            SortedTables x = loaded("T05;");
            x.save(0);
            x.insert(0, 6);
            x.save(0);
            x.save(1);
            x.append('0');
            x.append('7');
            x.undo();
            dueTables("undo()", x, "T05;");
            due("the text after undo()", x.errorPosition(), NONE);
            due("restore(0) after undo()", x.restore(0), 2);
            due("restore(1) after undo()", x.restore(1), 2);
            due("clearText() after undo()", x.clearText(), 6);
            x.insert(1, 8);
            due("the text after an action", x.append('T'), 1);
            x.undo();
            due("the length of the text after undo()", x.clearText(), 1);
        });
    }

    /** Table t alone changes, so a state that has lost this table is noticed. */
    private static void dueLastStates(int t, int actions) {
        SortedTables x = loaded("T00;00");
        for (int v = 1; v <= actions; v++) {
            x.change(t, 0, 0, v);
        }
        int remembered = Math.min(14, actions);
        for (int k = 1; k <= remembered; k++) {
            due("undo() " + k + " after " + actions + " actions", x.undo(), remembered - k);
            due("the number then", x.cell(t, 0, 0), actions - k);
            due("the number of the other table", x.cell(1 - t, 0, 0), 0);
        }
        dueState("undo() of a state that is forgotten", x, SortedTables::undo);
    }

    /** Actions and undos in turn, so that the oldest state is forgotten at every offset. */
    private static void dueLikeStack(Random random) {
        SortedTables x = loaded("T00;");
        Deque<Integer> states = new ArrayDeque<>();
        for (int k = 1; k < 90; k++) {
            if (random.nextInt(5) < 2) {
                due("undo() after " + k, answer(x, SortedTables::undo), states.isEmpty()
                        ? IllegalStateException.class.getName()
                        : Integer.toString(states.size() - 1));
                due("the number after " + k, x.cell(0, 0, 0), states.isEmpty()
                        ? x.cell(0, 0, 0) : states.pop());
            } else {
                states.push(x.cell(0, 0, 0));
                x.change(0, 0, 0, k);
                if (states.size() > 14) {
                    states.removeLast();
                }
            }
        }
    }

    // ---- promises 9 to 11

    private static void insert(Sentences s) {
        s.in("Promise 9: insert");
        s.holds("`v`: number, 0 to 99", () -> {
            SortedTables x = loaded("T50;50");
            due("insert(0, 0)", x.insert(0, 0), 0);
            due("insert(1, 99)", x.insert(1, 99), 1);
            dueTables("insert of both ends", x, "T0050;5099");
        });
        s.holds("Returns its place at the end, as 10 * (row) + (column).", () -> {
            int[][] shapes = {{0, 0, 0, 0, 0, 0}, {5, 5, 5, 5, 5, 5}, {6, 6, 6, 6, 6, 0},
                {6, 6, 6, 6, 6, 5}};
            int[] places = {0, 5, 50, 55};
            for (int k = 0; k < shapes.length; k++) {
                SortedTables x = loaded("T;" + Shapes.text(shapes[k], 50));
                due("insert(1, 50)", x.insert(1, 50), places[k]);
                x.undo();
                due("insert(1, 99)", x.insert(1, 99), places[k]);
                x.undo();
                due("insert(1, 0)", x.insert(1, 0), 0);
            }
        });
        s.holds("Throws `IndexOutOfBoundsException` if there is no such table",
                () -> dueNoTable("insert", (x, t) -> x.insert(t, 5)));
        s.holds("Throws `IllegalArgumentException` if v is out of range", () -> {
            dueRange("insert", 0, 99, (x, v) -> x.insert(0, v));
            dueRefused("insert(0, 100) without a gap", IllegalArgumentException.class,
                    () -> busyAndFull(0), o -> o.insert(0, 100));
            dueRefused("insert(1, -1) without a gap", IllegalArgumentException.class,
                    () -> busyAndFull(1), o -> o.insert(1, -1));
        });
        s.holds("Throws `IllegalStateException` if the table has no gap", () -> {
            for (int full = 0; full < 2; full++) {
                int t = full;
                for (int v : new int[] {0, 5, 99}) {
                    dueRefused("insert(" + t + ", " + v + ")", IllegalStateException.class,
                            () -> busyAndFull(t), o -> o.insert(t, v));
                }
                due("insert into the other table", busyAndFull(t).insert(1 - t, 99), 10);
            }
            SortedTables x = loaded("T" + FULL_BUT_LAST + ";");
            due("insert of the 36th cell", x.insert(0, 9), 55);
            dueState("insert of the 37th cell", x, o -> o.insert(0, 9));
            x.remove(0, 5, 5);
            due("insert of the 36th cell again", x.insert(0, 9), 55);
        });
    }

    private static void remove(Sentences s) {
        s.in("Promise 10: remove");
        s.holds("Returns its number.", () -> {
            SortedTables x = loaded("T0099;99");
            due("remove(1, 0, 0)", x.remove(1, 0, 0), 99);
            due("remove(0, 0, 0)", x.remove(0, 0, 0), 0);
            due("remove(0, 0, 0) again", x.remove(0, 0, 0), 99);
            dueTables("remove of all cells", x, "T;");
            dueIndex("remove of an emptied table", x, o -> o.remove(0, 0, 0));
            due("remove(0, 5, 5)", loaded("T" + FULL_TABLE + ";").remove(0, 5, 5), 6);
        });
        s.holds("Throws `IndexOutOfBoundsException` if there is no such table or cell", () -> {
            dueNoTable("remove", (x, t) -> x.remove(t, 0, 0));
            dueNoCell("remove", (x, i, j) -> x.remove(0, i, j));
            dueRefused("remove beyond a full table", IndexOutOfBoundsException.class,
                    () -> busyAndFull(0), o -> o.remove(0, 6, 5));
            dueRefused("remove beside a full table", IndexOutOfBoundsException.class,
                    () -> busyAndFull(0), o -> o.remove(0, 5, 6));
        });
    }

    private static void change(Sentences s) {
        s.in("Promise 11: change");
        s.holds("`v`: new number, 0 to 99", () -> {
            SortedTables x = loaded("T5060;5060");
            due("change(0, 0, 1, 0)", x.change(0, 0, 1, 0), 0);
            due("change(1, 0, 0, 99)", x.change(1, 0, 0, 99), 1);
            dueTables("change to both ends", x, "T0050;6099");
        });
        s.holds("Returns the place of the new number at the end, as 10 * (row) + (column).", () -> {
            SortedTables x = loaded("T" + Shapes.text(new int[] {6, 6, 6, 6, 6, 6}, 50) + ";05");
            due("change(0, 0, 0, 99)", x.change(0, 0, 0, 99), 55);
            due("change(0, 5, 5, 50)", x.change(0, 5, 5, 50), 55);
            due("change(0, 5, 5, 0)", x.change(0, 5, 5, 0), 0);
            due("change(0, 0, 5, 50)", x.change(0, 0, 5, 50), 5);
            due("change(0, 5, 0, 50)", x.change(0, 5, 0, 50), 50);
            due("change(1, 0, 0, 0)", x.change(1, 0, 0, 0), 0);
            due("change(1, 0, 0, 99)", x.change(1, 0, 0, 99), 0);
        });
        s.holds("Throws `IndexOutOfBoundsException` if there is no such table or cell", () -> {
            dueNoTable("change", (x, t) -> x.change(t, 0, 0, 5));
            dueNoCell("change", (x, i, j) -> x.change(0, i, j, 5));
            dueRefused("change of no cell to 100", IndexOutOfBoundsException.class, Checks::busy,
                    o -> o.change(0, 2, 0, 100));
            dueRefused("change of no table to -1", IndexOutOfBoundsException.class, Checks::busy,
                    o -> o.change(2, 0, 0, -1));
        });
        s.holds("Throws `IllegalArgumentException` if v is out of range",
                () -> dueRange("change", 0, 99, (x, v) -> x.change(0, 0, 0, v)));
    }

    // ---- promises 12 to 15

    private static void transfer(Sentences s) {
        s.in("Promise 12: transfer");
        s.holds("Returns its place in the other table, as 10 * (row) + (column).", () -> {
            int[][] shapes = {{0, 0, 0, 0, 0, 0}, {5, 5, 5, 5, 5, 5}, {6, 6, 6, 6, 6, 0},
                {6, 6, 6, 6, 6, 5}};
            int[] places = {0, 5, 50, 55};
            for (int k = 0; k < shapes.length; k++) {
                String table = Shapes.text(shapes[k], 50);
                due("transfer of 99", loaded("T99;" + table).transfer(0, 0, 0), places[k]);
                due("transfer of 0", loaded("T" + table + ";00").transfer(1, 0, 0), 0);
            }
        });
        s.holds("it is removed from its table, and its number is inserted into the other one", () -> {
            SortedTables x = loaded("T05;");
            due("transfer of the only cell", x.transfer(0, 0, 0), 0);
            dueTables("transfer of the only cell", x, "T;05");
            due("transfer back", x.transfer(1, 0, 0), 0);
            dueTables("transfer back", x, "T05;");
            SortedTables full = loaded("T" + FULL_TABLE + ";" + FULL_BUT_LAST);
            due("transfer into the last gap", full.transfer(0, 5, 5), 55);
            dueTables("transfer into the last gap", full, "T" + FULL_BUT_LAST + ";" + FULL_TABLE);
        });
        s.holds("Throws `IndexOutOfBoundsException` if there is no such table or cell", () -> {
            dueNoTable("transfer", (x, t) -> x.transfer(t, 0, 0));
            dueNoCell("transfer", (x, i, j) -> x.transfer(0, i, j));
            dueRefused("transfer of no cell into a full table", IndexOutOfBoundsException.class,
                    () -> busyAndFull(0), o -> o.transfer(1, 0, 2));
        });
        s.holds("Throws `IllegalStateException` if the other table has no gap", () -> {
            for (int full = 0; full < 2; full++) {
                int t = full;
                dueRefused("transfer from table " + (1 - t), IllegalStateException.class,
                        () -> busyAndFull(t), o -> o.transfer(1 - t, 0, 1));
                due("transfer out of a full table", busyAndFull(t).transfer(t, 0, 0), 0);
            }
            SortedTables x = loaded(FULL_PAIR);
            dueState("transfer between full tables", x, o -> o.transfer(0, 0, 0));
            dueState("undo() of a transfer that threw", x, SortedTables::undo);
        });
    }

    private static void transpose(Sentences s) {
        s.in("Promise 13: transpose");
        s.holds("Transposes a table: its rows become columns.", () -> {
            for (int[] lengths : Shapes.all()) {
                SortedTables x = loaded("T" + Shapes.text(lengths, 3) + ";0102");
                due("transpose(0)", x.transpose(0), lengths[0]);
                for (int k = 0; k < 6; k++) {
                    due("column " + k, x.size(0, k, true), lengths[k]);
                    due("row " + k, x.size(0, k, false), Shapes.column(lengths, k));
                }
                due("the other table", x.about(1, 0), 1);
            }
            SortedTables x = loaded("T;" + "000102030405/060708/0909");
            x.transpose(1);
            dueTables("transpose(1)", x, "T;000609/010709/0208/03/04/05");
        });
        s.holds("Returns the number of its rows then.", () -> {
            due("transpose of an empty table", new SortedTables().transpose(0), 0);
            due("transpose of a cell", loaded("T;00").transpose(1), 1);
            due("transpose of a row", loaded("T000000000000;").transpose(0), 6);
            due("transpose of a column", loaded("T00/00/00/00/00/00;").transpose(0), 1);
            due("transpose of a full table", loaded(FULL_PAIR).transpose(1), 6);
        });
        s.holds("Throws `IndexOutOfBoundsException` if there is no such table",
                () -> dueNoTable("transpose", SortedTables::transpose));
    }

    private static void exchange(Sentences s) {
        s.in("Promise 14: exchange");
        s.holds("Exchanges both tables.", () -> {
            SortedTables x = loaded("T" + FULL_TABLE + ";");
            x.exchange();
            dueTables("exchange()", x, "T;" + FULL_TABLE);
            x.exchange();
            dueTables("exchange() again", x, "T" + FULL_TABLE + ";");
        });
        s.holds("Returns the number of cells of table 0 then.", () -> {
            due("exchange() of empty tables", new SortedTables().exchange(), 0);
            due("exchange() with an empty table 1", loaded("T05;").exchange(), 0);
            due("exchange() with an empty table 0", loaded("T;05").exchange(), 1);
            due("exchange() with a full table 1", loaded("T05;" + FULL_TABLE).exchange(), 36);
        });
    }

    private static void undo(Sentences s) {
        s.in("Promise 15: undo");
        s.holds("Takes back the last action that is remembered.", () -> {
            SortedTables x = loaded(STAIRS);
            x.insert(0, 4);
            String inserted = show(x);
            x.remove(1, 0, 0);
            x.undo();
            dueTables("undo() of the second action", x, inserted);
            x.exchange();
            x.undo();
            dueTables("undo() of the action behind an undo", x, inserted);
            x.undo();
            dueTables("undo() of the first action", x, STAIRS);
        });
        s.holds("Returns how many states are still remembered.", () -> {
            SortedTables x = busy();
            for (int left = 13; left >= 0; left--) {
                due("undo()", x.undo(), left);
                due("the number then", x.cell(0, 0, 0), left + 1);
            }
        });
        s.holds("Throws `IllegalStateException` if none is remembered", () -> {
            dueRefused("undo() of a new object", IllegalStateException.class, SortedTables::new,
                    SortedTables::undo);
            dueRefused("undo() after load()", IllegalStateException.class, () -> loaded(STAIRS),
                    SortedTables::undo);
            dueRefused("undo() when all is taken back", IllegalStateException.class,
                    ActionBoundaries::allTakenBack, SortedTables::undo);
            SortedTables x = allTakenBack();
            dueState("undo()", x, SortedTables::undo);
            x.insert(0, 9);
            due("undo() of an action behind it", x.undo(), 0);
        });
    }

    private static SortedTables allTakenBack() {
        SortedTables x = busy();
        for (int k = 0; k < 14; k++) {
            x.undo();
        }
        return x;
    }
}
