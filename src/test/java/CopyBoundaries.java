/** The promises of scripts, simulations and save slots, 31 to 34. */
final class CopyBoundaries extends Checks {
    private static final String FULL_AND_ONE = "T" + FULL_TABLE + ";07";
    private static final int GROUPS = 100000;

    static void test(Sentences s) {
        scripts(s);
        commands(s);
        failures(s);
        scriptArguments(s);
        rounds(s);
        simulateArguments(s);
        save(s);
        restore(s);
    }

    // ---- scripts

    private static void dueScript(String text, int n, long script, int want) {
        due("runScript(" + n + ", " + script + ") on " + text, loaded(text).runScript(n, script), want);
    }

    private static void scripts(Sentences s) {
        s.in("Promise 31: runScript");
        s.holds("Runs a script on a copy of the tables.", () -> {
            long[] all = {100994000021000L, 310004100010000L, 200002000020000L, 300003000030000L};
            for (long script : all) {
                dueUnchanged("runScript(3, " + script + ")", Checks::busy,
                        o -> o.runScript(3, script));
                SortedTables x = busy();
                int first = x.runScript(3, script);
                due("the same script again", x.runScript(3, script), first);
            }
        });
        s.holds("the first command is the highest group of the number (with zeros before it, if it has "
                + "fewer digits)", () -> {
                    dueScript("T;", 2, 1000550001L, NONE);
                    dueScript("T;", 2, 5000010005L, NONE);
                    dueScript("T;", 2, 5000110005L, 0);
                    dueScript("T;", 2, 1000550000L, 1);
                    dueScript("T;", 3, 100055000050001L, 1);
                    dueScript("T;", 3, 100055000151000L, NONE);
                    dueScript("T;", 3, 100055000151001L, 2);
                    dueScript("T;", 1, 50000, NONE);
                    dueScript("T;", 2, 50000, 0);
                    dueScript("T;", 3, 50000, 0);
                    dueScript("T;", 3, 5000050000L, 0);
                    for (int n = 1; n <= 3; n++) {
                        dueScript("T;", n, 0, 0);
                        dueScript("T;", n, 1, 0);
                    }
                });
        s.holds("Returns the index, from 0, of the first command that fails; NONE if all succeed.",
                () -> {
                    dueScript("T;", 3, 500005000050000L, NONE);
                    dueScript("T;", 3, 500015000150001L, 0);
                    dueScript("T;", 3, 500005000150001L, 1);
                    dueScript("T;", 3, 500005000050001L, 2);
                    dueScript("T;", 3, 999999999999999L, 0);
                    dueScript("T;", 2, 5000099999L, 1);
                    dueScript("T;", 1, 99999, 0);
                });
    }

    private static void commands(Sentences s) {
        s.holds("1 t 0 x y: inserts xy into table t. 2 t i j 0: removes the cell (i, j) of table t. "
                + "3 t i j 0: moves this cell to the other table. 4 t 0 0 0: transposes table t.", () -> {
                    dueScript("T;", 3, 100006000050001L, NONE);
                    dueScript("T;", 3, 110996109951001L, NONE);
                    dueScript("T" + "0".repeat(12) + ";", 2, 4000020500L, NONE);
                    dueScript("T" + "0".repeat(12) + ";", 2, 4000020050L, 1);
                    dueScript("T05;", 3, 200005000070099L, 2);
                    dueScript("T05;", 3, 300005000061005L, NONE);
                    dueScript("T;05", 3, 310005100060005L, NONE);
                    dueScript("T;", 2, 4000041000L, NONE);
                    dueScript("T" + FULL_TABLE + ";", 3, 205505003510099L, NONE);
                    dueScript("T" + FULL_TABLE + ";", 3, 205501009950036L, NONE);
                    dueScript("T" + FULL_TABLE + ";", 3, 205501009950037L, 2);
                });
        s.holds("5 t 0 x y: succeeds if table t has xy cells.", () -> {
            dueScript("T;", 1, 50000, NONE);
            dueScript("T;", 1, 50001, 0);
            dueScript(FULL_AND_ONE, 1, 50036, NONE);
            dueScript(FULL_AND_ONE, 1, 50035, 0);
            dueScript(FULL_AND_ONE, 1, 50037, 0);
            dueScript(FULL_AND_ONE, 1, 51001, NONE);
            dueScript(FULL_AND_ONE, 1, 51000, 0);
        });
        s.holds("6 t 0 x y: succeeds if table t has a cell with the number xy.", () -> {
            dueScript("T;", 1, 60000, 0);
            dueScript("T00;99", 1, 60000, NONE);
            dueScript("T00;99", 1, 60001, 0);
            dueScript("T00;99", 1, 61099, NONE);
            dueScript("T00;99", 1, 61098, 0);
            dueScript("T00;99", 1, 60099, 0);
        });
        s.holds("7 t 0 x y: succeeds if table t has a greatest number, and it is at most xy.", () -> {
            dueScript("T;", 1, 70000, 0);
            dueScript("T;", 1, 70099, 0);
            dueScript("T00;99", 1, 70000, NONE);
            dueScript("T00;99", 1, 71098, 0);
            dueScript("T00;99", 1, 71099, NONE);
            dueScript("T0150/02;", 1, 70049, 0);
            dueScript("T0150/02;", 1, 70050, NONE);
            dueScript("T0150/02;", 1, 70051, NONE);
        });
        s.holds("8 0 x y z: succeeds if there are xyz pairs with a sum of at most 99.", () -> {
            dueScript("T;", 1, 80000, NONE);
            dueScript("T00;99", 1, 80001, NONE);
            dueScript("T01;99", 1, 80000, NONE);
            dueScript("T01;99", 1, 80001, 0);
            dueScript("T49;50", 1, 80001, NONE);
            dueScript("T50;50", 1, 80001, 0);
            String rows = "0".repeat(12) + "/" + "0".repeat(12) + "/" + "0".repeat(12);
            dueScript("T" + rows + ";" + rows, 1, 80324, NONE);
            dueScript("T" + rows + ";" + rows, 1, 80323, 0);
            dueMostPairs();
            // 1296 pairs are more than three digits can tell.
            dueScript(FULL_PAIR, 1, 80296, 0);
            dueScript(FULL_PAIR, 1, 80999, 0);
        });
    }

    /** Each of 27 zeros makes 36 pairs up to 99, and each 99 makes one with each 0 of table 1. */
    private static void dueMostPairs() {
        String zeros = "0".repeat(12);
        String ones = "/" + "01".repeat(6);
        String first = "T" + (zeros + "/").repeat(4) + "000000999999/";
        String pairs999 = first + "99".repeat(6) + ";000000010101" + ones.repeat(5);
        dueScript(pairs999, 1, 80999, NONE);
        dueScript(pairs999, 1, 80998, 0);
        dueScript(pairs999, 1, 80000, 0);
        String pairs1000 = first + "99;" + zeros + "/000101010101" + ones.repeat(4);
        due("pairs(99) of " + pairs1000, loaded(pairs1000).pairs(99), 1000);
        for (int xyz : new int[] {0, 1, 100, 999}) {
            dueScript(pairs1000, 1, 80000 + xyz, 0);
        }
        // Without a 99 of table 0 the pairs can be told again.
        dueScript(pairs1000, 2, 2050080993L, NONE);
    }

    private static void failures(Sentences s) {
        s.holds("The commands 1 to 4 fail if the method with this effect would throw an exception",
                () -> {
                    dueScript(FULL_AND_ONE, 1, 10000, 0);
                    dueScript(FULL_AND_ONE, 1, 11000, NONE);
                    dueScript(FULL_AND_ONE, 1, 31000, 0);
                    dueScript(FULL_AND_ONE, 1, 30550, NONE);
                    dueScript(FULL_AND_ONE, 2, 2055031000L, NONE);
                    dueScript(FULL_AND_ONE, 3, 205501000010000L, 2);
                    dueScript(FULL_PAIR, 1, 30000, 0);
                    dueScript(FULL_PAIR, 1, 21550, NONE);
                    dueScript("T;", 1, 20000, 0);
                    dueScript("T;", 1, 30000, 0);
                    dueScript("T05;", 1, 20010, 0);
                    dueScript("T05;", 1, 20100, 0);
                    dueScript("T05;", 2, 2000020000L, 1);
                    dueScript("T05;", 2, 3000030000L, 1);
                    dueScript("T05;", 1, 20990, 0);
                    dueScript("T05;", 1, 30990, 0);
                });
        s.holds("commands with a table that does not exist fail, and so does any other group", () -> {
            for (String text : new String[] {"T;", STAIRS, FULL_AND_ONE, "T9999;0099", "T;" + FULL_TABLE}) {
                new Facts(text).dueAllGroups();
            }
        });
    }

    /** What a script of one command needs to know of the tables, asked by the other methods. */
    private static final class Facts {
        private final String text;
        private final int[] cells = new int[2];
        private final int[] gaps = new int[2];
        private final int[] greatest = new int[2];
        private final boolean[][] numbers = new boolean[2][100];
        private final boolean[][] places = new boolean[2][100];
        private final int pairs;

        Facts(String text) {
            this.text = text;
            SortedTables x = loaded(text);
            pairs = x.pairs(99);
            for (int t = 0; t < 2; t++) {
                cells[t] = x.about(t, 2);
                gaps[t] = x.about(t, 7);
                greatest[t] = x.about(t, 4);
                for (int k = 0; k < cells[t]; k++) {
                    numbers[t][x.kth(t, k, false)] = true;
                    places[t][x.kth(t, k, true)] = true;
                }
            }
        }

        void dueAllGroups() {
            int each = 250;
            for (int start = 0; start < GROUPS; start += each) {
                SortedTables x = loaded(text);
                for (int group = start; group < start + each; group++) {
                    due("runScript(1, " + group + ") on " + text, x.runScript(1, group),
                            succeeds(group) ? NONE : 0);
                }
            }
        }

        private boolean succeeds(int group) {
            int command = group / 10000;
            int t = group / 1000 % 10;
            int rest = group % 1000;
            if (command == 8) {
                return t == 0 && rest == pairs;
            }
            if (t > 1) {
                return false;
            }
            if (command == 2 || command == 3) {
                boolean room = command == 2 || gaps[1 - t] > 0;
                return rest % 10 == 0 && places[t][rest / 10] && room;
            }
            return rest < 100 && succeeds(command, t, rest);
        }

        private boolean succeeds(int command, int t, int number) {
            switch (command) {
                case 1:
                    return gaps[t] > 0;
                case 4:
                    return number == 0;
                case 5:
                    return cells[t] == number;
                case 6:
                    return numbers[t][number];
                case 7:
                    return cells[t] > 0 && greatest[t] <= number;
                default:
                    return false;
            }
        }
    }

    private static void scriptArguments(Sentences s) {
        s.holds("`n`: number of commands, 1 to 3", () -> {
            dueScript("T;", 1, 10005, NONE);
            dueScript("T;", 2, 1000510006L, NONE);
            dueScript("T;", 3, 100051000650002L, NONE);
            dueScript("T;", 3, 100051000650003L, 2);
        });
        s.holds("`script`: the commands, a number of at most 5 * n digits (0 or more)", () -> {
            dueScript("T;", 1, 0, 0);
            dueScript("T;", 1, 99999, 0);
            dueScript("T;", 2, 9999999999L, 0);
            dueScript("T;", 3, 999999999999999L, 0);
            dueScript("T;", 3, 0, 0);
        });
        s.holds("Throws `IllegalArgumentException` if n is out of range, or if script is negative or "
                + "has more than 5 * n digits", () -> {
                    dueRange("n of runScript", 1, 3, (x, n) -> x.runScript(n, 50000));
                    dueRange("n of runScript with 0", 1, 3, (x, n) -> x.runScript(n, 0));
                    long most = 1;
                    for (int n = 1; n <= 3; n++) {
                        most *= GROUPS;
                        dueScript("T;", n, most - 1, 0);
                        dueTooLong(n, most);
                        dueTooLong(n, most + 50000);
                        dueTooLong(n, Long.MAX_VALUE);
                        dueTooLong(n, -1);
                        dueTooLong(n, -50000);
                        dueTooLong(n, Integer.MIN_VALUE);
                        dueTooLong(n, Long.MIN_VALUE);
                        // Its low half alone would be a script.
                        dueTooLong(n, (1L << 62) + 50000);
                    }
                    dueTooLong(0, 0);
                    dueTooLong(4, 0);
                    dueTooLong(0, -1);
                    dueTooLong(4, Long.MAX_VALUE);
                });
    }

    private static void dueTooLong(int n, long script) {
        dueRefused("runScript(" + n + ", " + script + ")", IllegalArgumentException.class,
                Checks::busy, o -> o.runScript(n, script));
    }

    // ---- simulations

    /** The seed for which the first round has this r: the round's step taken backwards. */
    private static long seedFor(int r) {
        long factor = 6364136223846793005L;
        long inverse = factor;
        for (int k = 0; k < 6; k++) {
            inverse *= 2 - factor * inverse;
        }
        return (((long) r << 33) - 1442695040888963407L) * inverse;
    }

    private static void dueRound(String text, int t, int kind, int rest, int want) {
        int r = 8 * rest + 2 * kind + t;
        due("simulate with r = " + r + " on " + text, loaded(text).simulate(seedFor(r), 1), want);
    }

    private static void rounds(Sentences s) {
        s.in("Promise 32: simulate");
        s.holds("If r / 2 % 4 is 0 and table t has cells, its cell with the number r / 8 % (number of "
                + "cells) in the order of its cells is removed.", () -> {
                    int[] first = {1, 2, 3, 5, 7, 9};
                    int[] second = {4, 6, 6};
                    for (int rest = 0; rest < 20; rest++) {
                        dueRound(STAIRS, 0, 0, rest, 43 - first[rest % 6]);
                        dueRound(STAIRS, 1, 0, rest, 43 - second[rest % 3]);
                    }
                    dueRound("T05;06", 0, 0, 0, 6);
                    dueRound("T05;06", 1, 0, 77, 5);
                    dueRound(FULL_AND_ONE, 0, 0, 35, 37);
                    dueRound(FULL_AND_ONE, 0, 0, 36, 43);
                    dueRound(STAIRS, 0, 0, MOST / 8, 38);
                });
        s.holds("Otherwise, r / 8 % 100 is inserted into table t, unless it has no gap.", () -> {
            for (int kind = 0; kind < 4; kind++) {
                for (int rest : new int[] {0, 1, 98, 99, 100, 101, 199, 200, MOST / 8}) {
                    dueRound("T;", 0, kind, rest, rest % 100);
                    dueRound("T;50", 0, kind, rest, 50 + rest % 100);
                    dueRound("T50;", 1, kind, rest, 50 + rest % 100);
                    dueRound(STAIRS, kind % 2, 1 + kind % 3, rest, 43 + rest % 100);
                }
            }
            for (int kind = 1; kind < 4; kind++) {
                dueRound(FULL_AND_ONE, 0, kind, 99, 43);
                dueRound(FULL_AND_ONE, 1, kind, 99, 142);
                dueRound("T07;" + FULL_TABLE, 1, kind, 99, 43);
                dueRound("T07;" + FULL_TABLE, 0, kind, 99, 142);
            }
        });
        s.holds("Each round first replaces x by x * 6364136223846793005L + 1442695040888963407L (with "
                + "long overflow), and r = (int) (x >>> 33) is computed", () -> {
                    due("r of all bits", loaded("T;").simulate(seedFor(MOST), 1), 55);
                    due("r of no bits", loaded("T07;").simulate(seedFor(0), 1), 0);
                    due("r of the highest bit", loaded("T;").simulate(seedFor(1 << 30), 1), 28);
                    for (long seed = -40; seed <= 40; seed++) {
                        dueRounds("T;", seed, 60);
                        dueRounds(STAIRS, seed * 1000000007L * 1000000009L, 30);
                    }
                });
    }

    private static void dueRounds(String text, long seed, int m) {
        due("simulate(" + seed + ", " + m + ") on " + text, loaded(text).simulate(seed, m),
                sumAfterRounds(loaded(text), seed, m));
    }

    private static void simulateArguments(Sentences s) {
        s.holds("`m`: number of rounds, 1 to 60", () -> {
            due("simulate of one round", loaded("T;").simulate(seedFor(8 * 77), 1), 77);
            dueRounds("T;", seedFor(8 * 77), 60);
        });
        s.holds("Returns the sum of all numbers of both tables at the end.", () -> {
            due("the sum of full tables", loaded(FULL_PAIR).simulate(seedFor(2), 1), 72);
            due("the sum of no numbers", loaded("T05;").simulate(seedFor(0), 1), 0);
            due("the sum of table 1 alone", loaded("T;05").simulate(seedFor(2), 1), 5);
        });
        s.holds("`seed`: any long", () -> {
            long[] seeds = {0, 1, -1, MOST, LEAST, Long.MAX_VALUE, Long.MIN_VALUE, 1L << 32, 1L << 33};
            for (long seed : seeds) {
                for (String text : new String[] {"T;", STAIRS, FULL_AND_ONE, FULL_PAIR}) {
                    dueRounds(text, seed, 1);
                    dueRounds(text, seed, 60);
                }
            }
        });
        s.holds("Simulates m rounds on a copy of the tables.", () -> {
            for (int m = 1; m <= 60; m++) {
                dueRounds(STAIRS, 12345, m);
            }
            SortedTables x = busy();
            int sum = x.simulate(7, 60);
            due("simulate again", x.simulate(7, 60), sum);
            dueUnchanged("simulate", Checks::busy, o -> o.simulate(7, 60));
        });
        s.holds("Throws `IllegalArgumentException` if m is out of range",
                () -> dueRange("simulate", 1, 60, (x, m) -> x.simulate(7, m)));
    }

    // ---- save slots

    private static void save(Sentences s) {
        s.in("Promise 33: save");
        s.holds("`slot`: 0 or 1", () -> {
            SortedTables x = loaded("T05;");
            due("save(0)", x.save(0), 1);
            x.insert(0, 6);
            due("save(1)", x.save(1), 2);
            due("restore(0)", x.restore(0), 1);
            due("restore(1)", x.restore(1), 2);
        });
        s.holds("Stores the present tables in a slot.", () -> {
            SortedTables x = loaded(STAIRS);
            x.save(0);
            x.remove(0, 0, 0);
            String less = show(x);
            x.save(1);
            x.insert(1, 50);
            due("undo() after save", x.undo(), 1);
            dueTables("undo() after save", x, less);
            x.exchange();
            x.restore(0);
            dueTables("restore(0)", x, STAIRS);
            x.insert(0, 9);
            x.restore(1);
            dueTables("restore(1)", x, less);
            x.exchange();
            String exchanged = show(x);
            x.save(0);
            x.restore(1);
            dueTables("restore(1) after save(0)", x, less);
            x.restore(0);
            dueTables("restore(0) of what was saved last", x, exchanged);
            SortedTables y = busy();
            y.save(0);
            y.save(0);
            due("undo() after two saves", y.undo(), 13);
        });
        s.holds("Returns the number of cells of both tables.", () -> {
            due("save of no cells", new SortedTables().save(0), 0);
            due("save of a cell", loaded("T;05").save(1), 1);
            due("save of full tables", loaded(FULL_PAIR).save(0), 72);
        });
        s.holds("Throws `IndexOutOfBoundsException` if there is no such slot",
                () -> dueNoSlot("save", SortedTables::save));
    }

    private static void dueNoSlot(String name, OnNumber call) {
        for (int slot : new int[] {-1, 2, 3, LEAST, MOST}) {
            dueRefused(name + "(" + slot + ")", IndexOutOfBoundsException.class, Checks::busy,
                    o -> call.on(o, slot));
            dueRefused(name + "(" + slot + ") of a new object", IndexOutOfBoundsException.class,
                    SortedTables::new, o -> call.on(o, slot));
        }
    }

    private static void restore(Sentences s) {
        s.in("Promise 34: restore");
        s.holds("`slot`: 0 or 1", () -> {
            due("restore(0)", busy().restore(0), 5);
            due("restore(1)", busy().restore(1), 6);
        });
        s.holds("Replaces the tables by those in a slot, and forgets all remembered states.", () -> {
            for (int slot = 0; slot < 2; slot++) {
                SortedTables x = busy();
                x.restore(slot);
                dueTables("restore(" + slot + ")", x, slot == 0 ? "T1020/3040;50" : "T1020/3040;5060");
                dueState("undo() after restore", x, SortedTables::undo);
                x.insert(0, 9);
                due("undo() of what came after restore", x.undo(), 0);
                due("the text after restore", x.clearText(), 9);
            }
        });
        s.holds("The slot keeps its tables.", () -> {
            SortedTables x = busy();
            for (int k = 0; k < 3; k++) {
                due("restore(0), time " + k, x.restore(0), 5);
                dueTables("restore(0), time " + k, x, "T1020/3040;50");
                x.change(0, 0, 0, k);
                x.transpose(0);
                x.insert(1, 90);
                due("restore(1), time " + k, x.restore(1), 6);
                dueTables("restore(1), time " + k, x, "T1020/3040;5060");
                x.remove(1, 0, 0);
            }
        });
        s.holds("Returns the number of cells of both tables then.", () -> {
            SortedTables x = loaded(FULL_PAIR);
            x.save(1);
            x.remove(0, 0, 0);
            due("restore of full tables", x.restore(1), 72);
            SortedTables empty = new SortedTables();
            empty.save(0);
            empty.insert(0, 5);
            due("restore of empty tables", empty.restore(0), 0);
            dueTables("restore of empty tables", empty, "T;");
        });
        s.holds("Throws `IndexOutOfBoundsException` if there is no such slot",
                () -> dueNoSlot("restore", SortedTables::restore));
        s.holds("Throws `IllegalStateException` if nothing has been saved in the slot",
                CopyBoundaries::restoreNothing);
        s.holds("or not since the last load()", CopyBoundaries::restoreAfterLoad);
    }

    private static void restoreNothing() {
        for (int slot = 0; slot < 2; slot++) {
            int empty = slot;
            dueRefused("restore of a new object", IllegalStateException.class, SortedTables::new,
                    o -> o.restore(empty));
            dueRefused("restore of the other slot", IllegalStateException.class,
                    () -> savedOnly(1 - empty), o -> o.restore(empty));
            due("restore of the slot", savedOnly(slot).restore(slot), 9);
        }
    }

    private static SortedTables savedOnly(int slot) {
        SortedTables x = loaded(STAIRS);
        x.save(slot);
        x.exchange();
        x.insert(0, 77);
        return x;
    }

    private static void restoreAfterLoad() {
        for (int slot = 0; slot < 2; slot++) {
            int emptied = slot;
            dueRefused("restore after load()", IllegalStateException.class,
                    CopyBoundaries::busyAndLoaded, o -> o.restore(emptied));
            SortedTables x = busyAndLoaded();
            x.save(slot);
            due("restore of what was saved after load()", x.restore(slot), 3);
            dueState("restore of the other slot", x, o -> o.restore(1 - emptied));
        }
        SortedTables refused = busy();
        refused.clearText();
        dueState("load() of no text", refused, SortedTables::load);
        due("restore(0) after a load() that threw", refused.restore(0), 5);
    }

    private static SortedTables busyAndLoaded() {
        SortedTables x = busy();
        x.load();
        x.insert(0, 9);
        x.undo();
        return x;
    }
}
