import java.util.function.Consumer;
import java.util.function.Supplier;
import java.util.function.ToLongFunction;

/** What all tests share: objects to ask, and answers that are told and counted if they are not due. */
class Checks {
    static final int NONE = -9;
    /** Rows of 3, 2 and 1 cells: three corners and four gaps. */
    static final String STAIRS = "T010307/0205/09;0406/06";
    static final String FULL_TABLE =
            "000000000001/000000000002/000000000003/000000000004/000000000005/010203040506";
    static final String FULL_PAIR = "T" + FULL_TABLE + ";" + FULL_TABLE;
    static final int LEAST = Integer.MIN_VALUE;
    static final int MOST = Integer.MAX_VALUE;

    private static int wrong = 0;
    private static String topic = "";

    interface OnNumber {
        long on(SortedTables x, int number);
    }

    interface OnPlace {
        long on(SortedTables x, int i, int j);
    }

    // ---- faults

    /** What the next faults are about. */
    static void setTopic(String text) {
        topic = text;
    }

    static void fault(String text) {
        wrong++;
        System.out.println(topic + text);
    }

    static int faults() {
        return wrong;
    }

    static void endWith(String good) {
        System.out.println(wrong == 0 ? good : wrong + " faults");
        if (wrong != 0) {
            System.exit(1);
        }
    }

    // ---- answers

    static void due(String call, long got, long want) {
        if (got != want) {
            fault(call + " answered " + got + ", due is " + want);
        }
    }

    static void due(String call, String got, String want) {
        if (!got.equals(want)) {
            fault(call + " told " + got + ", due is " + want);
        }
    }

    static void dueTables(String call, SortedTables x, String want) {
        due("the tables after " + call, show(x), want);
    }

    static void dueError(String text, int want) {
        due("errorPosition() of " + text, write(text).errorPosition(), want);
    }

    /** The number that a call answers, or the name of the exception that it throws. */
    static <T> String answer(T on, ToLongFunction<T> call) {
        try {
            return Long.toString(call.applyAsLong(on));
        } catch (RuntimeException e) {
            return e.getClass().getName();
        }
    }

    // ---- refused calls

    static void dueThrow(String call, Class<?> want, SortedTables x, Consumer<SortedTables> run) {
        String before = show(x);
        dueException(call, want, x, run);
        dueTables(call + ", which throws", x, before);
    }

    /** Asks nothing more of the object, whose calls are numbered. */
    static void dueException(String call, Class<?> want, SortedTables x,
            Consumer<SortedTables> run) {
        due(call, thrownBy(x, run), want.getName());
    }

    private static String thrownBy(SortedTables x, Consumer<SortedTables> run) {
        try {
            run.accept(x);
        } catch (RuntimeException e) {
            return e.getClass().getName();
        }
        return "no exception";
    }

    static void dueIndex(String call, SortedTables x, Consumer<SortedTables> run) {
        dueThrow(call, IndexOutOfBoundsException.class, x, run);
    }

    static void dueArgument(String call, SortedTables x, Consumer<SortedTables> run) {
        dueThrow(call, IllegalArgumentException.class, x, run);
    }

    static void dueState(String call, SortedTables x, Consumer<SortedTables> run) {
        dueThrow(call, IllegalStateException.class, x, run);
    }

    /** The call throws just this exception, and nothing that can be asked is different then. */
    static void dueRefused(String call, Class<?> want, Supplier<SortedTables> maker,
            Consumer<SortedTables> run) {
        SortedTables x = maker.get();
        dueException(call, want, x, run);
        due("all there is after " + call + ", which throws,", all(x), all(maker.get()));
    }

    static void dueUnchanged(String call, Supplier<SortedTables> maker,
            Consumer<SortedTables> run) {
        SortedTables x = maker.get();
        due(call, thrownBy(x, run), "no exception");
        due("all there is after " + call, all(x), all(maker.get()));
    }

    static void dueNoTable(String name, OnNumber call) {
        for (int t : new int[] {-1, 2, 3, 10, LEAST, MOST}) {
            dueRefused(name + " of table " + t, IndexOutOfBoundsException.class, Checks::busy,
                    x -> call.on(x, t));
        }
        for (int t = 0; t < 2; t++) {
            dueAnswer(name + " of table " + t, busy(), t, call);
        }
    }

    /** The call is for table 0. */
    static void dueNoCell(String name, OnPlace call) {
        int[] lines = {LEAST, -1, 0, 1, 2, 3, 4, 5, 6, 7, 10, MOST};
        for (int i : lines) {
            for (int j : lines) {
                boolean there = i >= 0 && i < 2 && j >= 0 && j < 2;
                String told = name + " at " + i + ", " + j;
                if (there) {
                    due(told, thrownBy(busy(), x -> call.on(x, i, j)), "no exception");
                } else {
                    dueRefused(told, IndexOutOfBoundsException.class, Checks::busy,
                            x -> call.on(x, i, j));
                }
            }
        }
        dueRefused(name + " of an empty table", IndexOutOfBoundsException.class,
                Checks::busyAndEmpty, x -> call.on(x, 0, 0));
    }

    /** Both ends of the range are answered, what lies beyond them is refused. */
    static void dueRange(String name, int least, int most, OnNumber call) {
        for (int number : new int[] {LEAST, least - 1, most + 1, MOST}) {
            dueRefused(name + " with " + number, IllegalArgumentException.class, Checks::busy,
                    x -> call.on(x, number));
        }
        dueAnswer(name + " with the least", busy(), least, call);
        dueAnswer(name + " with the greatest", busy(), most, call);
    }

    static void dueNotNegative(String name, OnNumber call) {
        for (int k : new int[] {LEAST, -1}) {
            dueRefused(name + " with " + k, IllegalArgumentException.class, Checks::busy,
                    x -> call.on(x, k));
        }
        dueAnswer(name + " with 0", busy(), 0, call);
        dueAnswer(name + " with the greatest int", busy(), MOST, call);
    }

    private static void dueAnswer(String name, SortedTables x, int number, OnNumber call) {
        due(name, thrownBy(x, o -> call.on(o, number)), "no exception");
    }

    // ---- objects

    static SortedTables write(String text) {
        SortedTables x = new SortedTables();
        appendAll(x, text);
        return x;
    }

    static void appendAll(SortedTables x, String text) {
        for (int k = 0; k < text.length(); k++) {
            x.append(text.charAt(k));
        }
    }

    static SortedTables loaded(String text) {
        SortedTables x = write(text);
        x.load();
        return x;
    }

    /** T1520/3040;5060 with a text, 14 remembered states and two save slots, all different. */
    static SortedTables busy() {
        SortedTables x = loaded("T1020/3040;50");
        x.save(0);
        x.insert(1, 60);
        x.save(1);
        x.clearText();
        appendAll(x, "T01/02;03");
        for (int v = 1; v <= 15; v++) {
            x.change(0, 0, 0, v);
        }
        return x;
    }

    /** Like busy, but table t is full, and the other one has the cells 07 and 22. */
    static SortedTables busyAndFull(int t) {
        SortedTables x = loaded(t == 0 ? "T" + FULL_TABLE + ";07" : "T07;" + FULL_TABLE);
        x.save(0);
        x.insert(1 - t, 8);
        x.save(1);
        x.clearText();
        appendAll(x, "T01/02;03");
        for (int v = 8; v <= 22; v++) {
            x.change(1 - t, 0, 1, v);
        }
        return x;
    }

    /** Like busy, but both tables are empty, and 10 states are remembered. */
    static SortedTables busyAndEmpty() {
        SortedTables x = new SortedTables();
        x.insert(0, 7);
        x.save(0);
        x.insert(1, 8);
        x.save(1);
        appendAll(x, "T01/02;03");
        for (int v = 10; v < 16; v++) {
            x.change(1, 0, 0, v);
        }
        x.remove(0, 0, 0);
        x.remove(1, 0, 0);
        return x;
    }

    // ---- simulations

    /** Makes the rounds by the face's own actions; the object is used up by it. */
    static int sumAfterRounds(SortedTables x, long seed, int m) {
        long number = seed;
        for (int round = 0; round < m; round++) {
            number = number * 6364136223846793005L + 1442695040888963407L;
            int r = (int) (number >>> 33);
            int t = r % 2;
            int cells = x.about(t, 2);
            if (r / 2 % 4 == 0 && cells > 0) {
                int place = x.kth(t, r / 8 % cells, true);
                x.remove(t, place / 10, place % 10);
            } else if (x.about(t, 7) > 0) {
                x.insert(t, r / 8 % 100);
            }
        }
        return x.about(0, 5) + x.about(1, 5);
    }

    // ---- what an object tells

    static String show(SortedTables x) {
        return "T" + show(x, 0) + ";" + show(x, 1);
    }

    static String show(SortedTables x, int t) {
        StringBuilder text = new StringBuilder();
        int length = x.size(t, 0, false);
        for (int i = 0; length > 0; i++) {
            text.append(i == 0 ? "" : "/");
            for (int j = 0; j < length; j++) {
                text.append(twoDigits(x.cell(t, i, j)));
            }
            length = i < 5 ? x.size(t, i + 1, false) : 0;
        }
        return text.toString();
    }

    static String twoDigits(int number) {
        return number < 10 ? "0" + number : Integer.toString(number);
    }

    /** All that can be asked of an object; the object is used up by it. */
    static String all(SortedTables x) {
        StringBuilder told = new StringBuilder(show(x));
        told.append(" error ").append(x.errorPosition());
        for (int k = 0; k < 16; k++) {
            String left = answer(x, SortedTables::undo);
            told.append(" undo ").append(left).append(' ').append(sums(x));
        }
        for (int slot = 0; slot < 2; slot++) {
            int from = slot;
            told.append(" slot ").append(answer(x, o -> o.restore(from))).append(' ');
            told.append(show(x));
        }
        told.append(" load ").append(answer(x, SortedTables::load)).append(' ').append(show(x));
        return told.append(" text ").append(x.clearText()).toString();
    }

    /** Short, so that an object with many remembered states stays below its 512 calls. */
    private static String sums(SortedTables x) {
        return x.about(0, 2) + "/" + x.about(0, 5) + "/" + x.about(1, 2) + "/" + x.about(1, 5);
    }
}
