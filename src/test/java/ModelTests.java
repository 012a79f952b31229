import java.util.ArrayDeque;
import java.util.ArrayList;
import java.util.Deque;
import java.util.HashMap;
import java.util.List;
import java.util.Map;
import java.util.Random;
import java.util.TreeSet;

/** Runs of calls whose answers are compared with those of a plainer program. */
public final class ModelTests extends Checks {
    private static final int RUNS = 2500;
    /** Of the 512, so many are needed to show two full tables, and to write a text of them. */
    private static final int SHOW_CALLS = 84;
    private static final int TEXT_CALLS = 157;
    private static final int MOST_CALLS = 512 - SHOW_CALLS;

    public static void main(String[] args) {
        for (int run = 0; run < RUNS && faults() < 20; run++) {
            compare(new Random(run * 7919L + 1));
        }
        compareErrorPositions();
        endWith("both programs agree");
    }

    // ---- runs

    /** The tables are shown at the end alone, as showing them takes calls as well. */
    private static void compare(Random random) {
        SortedTables x = new SortedTables();
        Real real = new Real(x);
        Model model = new Model();
        StringBuilder told = new StringBuilder();
        int greed = random.nextInt(4);
        int calls = 1 + random.nextInt(MOST_CALLS);
        for (int k = 0; k < calls; k++) {
            if (random.nextInt(60) == 0 && k + TEXT_CALLS < calls) {
                k += writeText(random, x, model, told);
            }
            Call call = nextCall(random, model, greed);
            String want = answer(model, call::on);
            String got = answer(real, call::on);
            told.append(call.name).append(" -> ").append(want).append('\n');
            if (!want.equals(got)) {
                fault(told + "but the class answered " + got);
                return;
            }
        }
        due(told + "after these the tables", show(x), model.show());
    }

    private static int writeText(Random random, SortedTables x, Model model, StringBuilder told) {
        String text = randomText(random);
        x.clearText();
        model.clearText();
        for (char c : text.toCharArray()) {
            x.append(c);
            model.append(c);
        }
        told.append("text ").append(text).append('\n');
        return 1 + text.length();
    }

    private static String randomText(Random random) {
        String text = "T" + randomTable(random) + ";" + randomTable(random);
        if (random.nextInt(3) == 0) {
            char[] signs = text.toCharArray();
            signs[random.nextInt(signs.length)] = "0123456789/;T x".charAt(random.nextInt(15));
            text = new String(signs);
        }
        return text;
    }

    private static String randomTable(Random random) {
        StringBuilder text = new StringBuilder();
        int[][] numbers = new int[7][7];
        int length = random.nextInt(7);
        int spread = random.nextBoolean() ? 2 : 16;
        for (int i = 0; i < 6 && length > 0; i++) {
            text.append(i == 0 ? "" : "/");
            for (int j = 0; j < length; j++) {
                int least = Math.max(i == 0 ? 0 : numbers[i - 1][j], j == 0 ? 0 : numbers[i][j - 1]);
                numbers[i][j] = Math.min(99, least + random.nextInt(spread));
                text.append(String.format("%02d", numbers[i][j]));
            }
            length -= random.nextInt(3) == 0 ? random.nextInt(length + 1) : 0;
            if (random.nextInt(8) == 0) {
                break;
            }
        }
        return text.toString();
    }

    // ---- calls

    private interface Step {
        long on(Face face);
    }

    private static final class Call {
        final String name;
        private final Step step;

        Call(String name, Step step) {
            this.name = name;
            this.step = step;
        }

        long on(Face face) {
            return step.on(face);
        }
    }

    /** Mostly in the range, now and then just outside of it or far away. */
    private static int some(Random random, int least, int most) {
        int kind = random.nextInt(40);
        if (kind == 0) {
            return least - 1;
        }
        if (kind == 1) {
            return most + 1;
        }
        if (kind == 2 && random.nextInt(4) == 0) {
            return random.nextBoolean() ? Integer.MIN_VALUE : Integer.MAX_VALUE;
        }
        return least + random.nextInt(most - least + 1);
    }

    private static int someNumber(Random random) {
        return random.nextInt(4) == 0 ? some(random, 0, 9) : some(random, 0, 99);
    }

    private static Call nextCall(Random random, Model model, int greed) {
        int t = some(random, 0, 1);
        int v = someNumber(random);
        boolean flag = random.nextBoolean();
        int i = some(random, 0, 5);
        int j = some(random, 0, 5);
        if (t >= 0 && t <= 1 && random.nextInt(8) != 0 && !model.tables.get(t).isEmpty()) {
            i = random.nextInt(model.tables.get(t).size());
            j = random.nextInt(model.tables.get(t).get(i).size());
        }
        if (random.nextInt(4) < greed) {
            return call("insert", t, v, Face::insert);
        }
        int kind = random.nextInt(32);
        if (kind < 12) {
            return nextAction(random, kind, t, i, j, v);
        }
        return nextQuestion(random, kind, t, i, j, v, flag);
    }

    private static Call nextAction(Random random, int kind, int t, int i, int j, int v) {
        switch (kind) {
            case 0:
            case 1:
                return call("insert", t, v, Face::insert);
            case 2:
            case 3:
                return new Call("remove" + list(t, i, j), f -> f.remove(t, i, j));
            case 4:
                return new Call("change" + list(t, i, j, v), f -> f.change(t, i, j, v));
            case 5:
                return new Call("transfer" + list(t, i, j), f -> f.transfer(t, i, j));
            case 6:
                return new Call("transpose" + list(t), f -> f.transpose(t));
            case 7:
                return new Call("exchange()", f -> f.exchange());
            case 8:
            case 9:
                return new Call("undo()", f -> f.undo());
            case 10:
                return random.nextBoolean() ? new Call("save" + list(t), f -> f.save(t))
                        : new Call("restore" + list(t), f -> f.restore(t));
            default:
                return random.nextInt(3) == 0 ? new Call("load()", f -> f.load())
                        : new Call("errorPosition()", f -> f.errorPosition());
        }
    }

    private static Call nextQuestion(Random random, int kind, int t, int i, int j, int v,
            boolean flag) {
        int k = some(random, 0, 40);
        switch (kind) {
            case 12:
                return call("about", t, some(random, 0, 7), Face::about);
            case 13:
                return new Call("cell" + list(t, i, j), f -> f.cell(t, i, j));
            case 14:
                int line = some(random, 0, 5);
                return new Call("size" + list(t, line) + flag, f -> f.size(t, line, flag));
            case 15:
                return call("count", t, v, Face::count);
            case 16:
                int told = some(random, 0, 2);
                return new Call("walk" + list(t, v, told), f -> f.walk(t, v, told));
            case 17:
                return new Call("kth" + list(t, k) + flag, f -> f.kth(t, k, flag));
            case 18:
                return new Call("rank" + list(t, i, j), f -> f.rank(t, i, j));
            case 19:
            case 20:
                return nextWindow(random, t, v, flag);
            case 21:
                int both = some(random, 0, 73);
                return new Call("kthOfBoth" + list(both) + flag, f -> f.kthOfBoth(both, flag));
            case 22:
                int s = some(random, 0, 198);
                return new Call("pairs" + list(s), f -> f.pairs(s));
            case 23:
                int sum = some(random, 0, 1300);
                return new Call("kthSum" + list(sum), f -> f.kthSum(sum));
            case 24:
                int corner = some(random, 0, 6);
                return new Call("corner" + list(t, corner) + flag, f -> f.corner(t, corner, flag));
            case 25:
                return new Call("hook" + list(t, i, j), f -> f.hook(t, i, j));
            case 26:
                return new Call("fillings" + list(t), f -> f.fillings(t));
            case 27:
                return call("path", t, some(random, 0, 1), Face::path);
            case 28:
                return new Call("ifInserted" + list(t, v) + flag, f -> f.ifInserted(t, v, flag));
            case 29:
                return new Call("ifRemoved" + list(t, i, j), f -> f.ifRemoved(t, i, j));
            case 30:
                return nextScript(random);
            default:
                long seed = random.nextLong();
                int m = some(random, 1, 60);
                return new Call("simulate(" + seed + ", " + m + ")", f -> f.simulate(seed, m));
        }
    }

    private static Call nextWindow(Random random, int t, int v, boolean flag) {
        int i = some(random, 0, 5);
        int j = some(random, 0, 5);
        int h = some(random, 1, 6);
        int w = some(random, 1, 6);
        int k = some(random, 0, random.nextBoolean() ? 5 : 36);
        return flag
                ? new Call("windowCount" + list(t, i, j, h, w, v),
                        f -> f.windowCount(t, i, j, h, w, v))
                : new Call("windowKth" + list(t, i, j, h, w, k),
                        f -> f.windowKth(t, i, j, h, w, k));
    }

    private static Call nextScript(Random random) {
        int n = some(random, 1, 3);
        long script = 0;
        for (int k = 0; k < 1 + random.nextInt(3); k++) {
            script = script * 100000 + nextGroup(random);
        }
        if (random.nextInt(30) == 0) {
            script = random.nextLong();
        }
        long all = script;
        return new Call("runScript(" + n + ", " + all + ")", f -> f.runScript(n, all));
    }

    private static int nextGroup(Random random) {
        if (random.nextInt(12) == 0) {
            return random.nextInt(100000);
        }
        int command = 1 + random.nextInt(8);
        int t = command == 8 ? 0 : random.nextInt(2);
        int rest = random.nextInt(100);
        if (command == 2 || command == 3) {
            rest = 100 * random.nextInt(3) + 10 * random.nextInt(3);
        } else if (command == 4) {
            rest = 0;
        } else if (command == 5) {
            rest = random.nextInt(12);
        } else if (command == 8) {
            rest = random.nextInt(4);
        }
        return command * 10000 + t * 1000 + rest;
    }

    private interface TwoArguments {
        long on(Face face, int a, int b);
    }

    private static Call call(String name, int a, int b, TwoArguments step) {
        return new Call(name + list(a, b), f -> step.on(f, a, b));
    }

    private static String list(int... arguments) {
        StringBuilder text = new StringBuilder("(");
        for (int k = 0; k < arguments.length; k++) {
            text.append(k == 0 ? "" : ", ").append(arguments[k]);
        }
        return text.append(")").toString();
    }

    // ---- error positions

    private static void compareErrorPositions() {
        Random random = new Random(4);
        for (int k = 0; k < 3000; k++) {
            String text = randomText(random);
            if (random.nextInt(3) == 0) {
                text = text.substring(0, random.nextInt(text.length() + 1));
            }
            Model model = new Model();
            for (char c : text.toCharArray()) {
                model.append(c);
            }
            dueError(text, model.errorPosition());
        }
    }

    // ---- both programs behind one face

    private interface Face {
        int errorPosition();
        int load();
        int about(int t, int what);
        int cell(int t, int i, int j);
        int size(int t, int k, boolean column);
        int insert(int t, int v);
        int remove(int t, int i, int j);
        int change(int t, int i, int j, int v);
        int transfer(int t, int i, int j);
        int transpose(int t);
        int exchange();
        int undo();
        int count(int t, int v);
        int walk(int t, int v, int what);
        int kth(int t, int k, boolean place);
        int rank(int t, int i, int j);
        int windowCount(int t, int i, int j, int h, int w, int v);
        int windowKth(int t, int i, int j, int h, int w, int k);
        int kthOfBoth(int k, boolean table);
        int pairs(int s);
        int kthSum(int k);
        int corner(int t, int k, boolean gap);
        int hook(int t, int i, int j);
        long fillings(int t);
        int path(int t, int what);
        int ifInserted(int t, int v, boolean slide);
        int ifRemoved(int t, int i, int j);
        int runScript(int n, long script);
        int simulate(long seed, int m);
        int save(int slot);
        int restore(int slot);
    }

    private static final class Real implements Face {
        private final SortedTables x;

        Real(SortedTables x) {
            this.x = x;
        }

        public int errorPosition() { return x.errorPosition(); }
        public int load() { return x.load(); }
        public int about(int t, int what) { return x.about(t, what); }
        public int cell(int t, int i, int j) { return x.cell(t, i, j); }
        public int size(int t, int k, boolean column) { return x.size(t, k, column); }
        public int insert(int t, int v) { return x.insert(t, v); }
        public int remove(int t, int i, int j) { return x.remove(t, i, j); }
        public int change(int t, int i, int j, int v) { return x.change(t, i, j, v); }
        public int transfer(int t, int i, int j) { return x.transfer(t, i, j); }
        public int transpose(int t) { return x.transpose(t); }
        public int exchange() { return x.exchange(); }
        public int undo() { return x.undo(); }
        public int count(int t, int v) { return x.count(t, v); }
        public int walk(int t, int v, int what) { return x.walk(t, v, what); }
        public int kth(int t, int k, boolean place) { return x.kth(t, k, place); }
        public int rank(int t, int i, int j) { return x.rank(t, i, j); }
        public int windowCount(int t, int i, int j, int h, int w, int v) {
            return x.windowCount(t, i, j, h, w, v);
        }
        public int windowKth(int t, int i, int j, int h, int w, int k) {
            return x.windowKth(t, i, j, h, w, k);
        }
        public int kthOfBoth(int k, boolean table) { return x.kthOfBoth(k, table); }
        public int pairs(int s) { return x.pairs(s); }
        public int kthSum(int k) { return x.kthSum(k); }
        public int corner(int t, int k, boolean gap) { return x.corner(t, k, gap); }
        public int hook(int t, int i, int j) { return x.hook(t, i, j); }
        public long fillings(int t) { return x.fillings(t); }
        public int path(int t, int what) { return x.path(t, what); }
        public int ifInserted(int t, int v, boolean slide) { return x.ifInserted(t, v, slide); }
        public int ifRemoved(int t, int i, int j) { return x.ifRemoved(t, i, j); }
        public int runScript(int n, long script) { return x.runScript(n, script); }
        public int simulate(long seed, int m) { return x.simulate(seed, m); }
        public int save(int slot) { return x.save(slot); }
        public int restore(int slot) { return x.restore(slot); }
    }

    /** Tables as lists of rows, and every question answered by listing all that there is. */
    private static final class Model implements Face {
        private static final Map<String, Long> KNOWN_FILLINGS = new HashMap<>();
        List<List<List<Integer>>> tables = List.of(new ArrayList<>(), new ArrayList<>());
        private final Deque<List<List<List<Integer>>>> past = new ArrayDeque<>();
        private final Map<Integer, List<List<List<Integer>>>> slots = new HashMap<>();
        private String text = "";
        private int moves = 0;
        private int lastPlace = 0;

        void clearText() {
            text = "";
        }

        void append(char c) {
            text += c;
        }

        String show() {
            return show(tables);
        }

        private static String show(List<List<List<Integer>>> tables) {
            List<String> both = new ArrayList<>();
            for (List<List<Integer>> table : tables) {
                List<String> rows = new ArrayList<>();
                for (List<Integer> row : table) {
                    StringBuilder line = new StringBuilder();
                    row.forEach(v -> line.append(String.format("%02d", v)));
                    rows.add(line.toString());
                }
                both.add(String.join("/", rows));
            }
            return "T" + String.join(";", both);
        }

        private static List<List<List<Integer>>> copy(List<List<List<Integer>>> tables) {
            List<List<List<Integer>>> both = new ArrayList<>();
            for (List<List<Integer>> table : tables) {
                List<List<Integer>> rows = new ArrayList<>();
                table.forEach(row -> rows.add(new ArrayList<>(row)));
                both.add(rows);
            }
            return both;
        }

        // -- text

        /** Tables, or null if the text is none of them. */
        private static List<List<List<Integer>>> parse(String text) {
            if (!text.matches("T([0-9/]*);([0-9/]*)")) {
                return null;
            }
            List<List<List<Integer>>> both = new ArrayList<>();
            for (String part : text.substring(1).split(";", -1)) {
                List<List<Integer>> table = new ArrayList<>();
                if (!part.isEmpty()) {
                    for (String line : part.split("/", -1)) {
                        if (line.isEmpty() || line.length() % 2 != 0) {
                            return null;
                        }
                        List<Integer> row = new ArrayList<>();
                        for (int k = 0; k < line.length(); k += 2) {
                            row.add(Integer.parseInt(line.substring(k, k + 2)));
                        }
                        table.add(row);
                    }
                }
                if (!isSorted(table)) {
                    return null;
                }
                both.add(table);
            }
            return both;
        }

        private static boolean isSorted(List<List<Integer>> table) {
            if (table.size() > 6 || (!table.isEmpty() && table.get(0).size() > 6)) {
                return false;
            }
            for (int i = 0; i < table.size(); i++) {
                if (i > 0 && table.get(i).size() > table.get(i - 1).size()) {
                    return false;
                }
                for (int j = 0; j < table.get(i).size(); j++) {
                    int v = table.get(i).get(j);
                    if (i > 0 && table.get(i - 1).get(j) > v || j > 0 && table.get(i).get(j - 1) > v) {
                        return false;
                    }
                }
            }
            return true;
        }

        /** A beginning can stand if one of its shortest endings makes it a text of the tables. */
        private static boolean canBegin(String start) {
            for (String end : new String[] {"", ";", "9", "9;", "99", "99;", "T;"}) {
                if (parse(start + end) != null) {
                    return true;
                }
            }
            return false;
        }

        public int errorPosition() {
            for (int k = 1; k <= text.length(); k++) {
                if (!canBegin(text.substring(0, k))) {
                    return k - 1;
                }
            }
            return parse(text) == null ? text.length() : NONE;
        }

        public int load() {
            if (parse(text) == null) {
                throw new IllegalStateException();
            }
            tables = parse(text);
            past.clear();
            slots.clear();
            return cells(tables);
        }

        private static int cells(List<List<List<Integer>>> tables) {
            return list(tables.get(0)).size() + list(tables.get(1)).size();
        }

        // -- checks

        private List<List<Integer>> table(int t) {
            if (t != 0 && t != 1) {
                throw new IndexOutOfBoundsException();
            }
            return tables.get(t);
        }

        private static boolean has(List<List<Integer>> table, int i, int j) {
            return i >= 0 && i < table.size() && j >= 0 && j < table.get(i).size();
        }

        private List<List<Integer>> table(int t, int i, int j) {
            if (!has(table(t), i, j)) {
                throw new IndexOutOfBoundsException();
            }
            return tables.get(t);
        }

        private static void argument(boolean fine) {
            if (!fine) {
                throw new IllegalArgumentException();
            }
        }

        private static void state(boolean fine) {
            if (!fine) {
                throw new IllegalStateException();
            }
        }

        // -- what there is

        /** All cells in their order, each as number, row, column. */
        private static List<int[]> list(List<List<Integer>> table) {
            List<int[]> all = new ArrayList<>();
            for (int i = 0; i < table.size(); i++) {
                for (int j = 0; j < table.get(i).size(); j++) {
                    all.add(new int[] {table.get(i).get(j), i, j});
                }
            }
            all.sort((a, b) -> a[0] - b[0]);
            return all;
        }

        private static List<Integer> corners(List<List<Integer>> table) {
            List<Integer> places = new ArrayList<>();
            for (int[] c : list(table)) {
                if (!has(table, c[1] + 1, c[2]) && !has(table, c[1], c[2] + 1)) {
                    places.add(10 * c[1] + c[2]);
                }
            }
            return new ArrayList<>(new TreeSet<>(places));
        }

        private static List<Integer> gaps(List<List<Integer>> table) {
            List<Integer> places = new ArrayList<>();
            for (int i = 0; i < 6; i++) {
                for (int j = 0; j < 6; j++) {
                    boolean above = i == 0 || has(table, i - 1, j);
                    boolean left = j == 0 || has(table, i, j - 1);
                    if (!has(table, i, j) && above && left) {
                        places.add(10 * i + j);
                    }
                }
            }
            return places;
        }

        private static int sum(List<List<Integer>> table) {
            return list(table).stream().mapToInt(c -> c[0]).sum();
        }

        public int about(int t, int what) {
            List<List<Integer>> table = table(t);
            argument(what >= 0 && what <= 7);
            List<int[]> all = list(table);
            int n = all.size();
            int[] numbers = {table.size(), n == 0 ? 0 : table.get(0).size(), n,
                n == 0 ? NONE : all.get(0)[0], n == 0 ? NONE : all.get(n - 1)[0], sum(table),
                corners(table).size(), gaps(table).size()};
            return numbers[what];
        }

        public int cell(int t, int i, int j) {
            return table(t, i, j).get(i).get(j);
        }

        public int size(int t, int k, boolean column) {
            List<List<Integer>> table = table(t);
            argument(k >= 0 && k <= 5);
            return (int) list(table).stream().filter(c -> c[column ? 2 : 1] == k).count();
        }

        // -- actions

        private void remember() {
            past.addLast(copy(tables));
            if (past.size() > 14) {
                past.removeFirst();
            }
        }

        private void exchangeCells(List<List<Integer>> table, int i, int j, int k, int l) {
            int v = table.get(i).get(j);
            table.get(i).set(j, table.get(k).get(l));
            table.get(k).set(l, v);
            moves++;
        }

        private int slideUp(List<List<Integer>> table, int i, int j) {
            int v = table.get(i).get(j);
            boolean up = i > 0 && table.get(i - 1).get(j) > v;
            boolean left = j > 0 && table.get(i).get(j - 1) > v;
            if (up && left) {
                up = table.get(i - 1).get(j) >= table.get(i).get(j - 1);
                left = !up;
            }
            if (up) {
                exchangeCells(table, i, j, i - 1, j);
                return slideUp(table, i - 1, j);
            }
            if (left) {
                exchangeCells(table, i, j, i, j - 1);
                return slideUp(table, i, j - 1);
            }
            return 10 * i + j;
        }

        private int slideDown(List<List<Integer>> table, int i, int j) {
            int v = table.get(i).get(j);
            boolean down = has(table, i + 1, j) && table.get(i + 1).get(j) < v;
            boolean right = has(table, i, j + 1) && table.get(i).get(j + 1) < v;
            if (down && right) {
                down = table.get(i + 1).get(j) <= table.get(i).get(j + 1);
                right = !down;
            }
            if (down) {
                exchangeCells(table, i, j, i + 1, j);
                return slideDown(table, i + 1, j);
            }
            if (right) {
                exchangeCells(table, i, j, i, j + 1);
                return slideDown(table, i, j + 1);
            }
            return 10 * i + j;
        }

        private int put(List<List<Integer>> table, int v) {
            int best = -1;
            for (int gap : gaps(table)) {
                if (best < 0 || gap / 10 + gap % 10 < best / 10 + best % 10) {
                    best = gap;
                }
            }
            if (best / 10 == table.size()) {
                table.add(new ArrayList<>());
            }
            table.get(best / 10).add(v);
            moves = 0;
            return slideUp(table, best / 10, best % 10);
        }

        private int take(List<List<Integer>> table, int i, int j) {
            int v = table.get(i).get(j);
            int row = i;
            int column = j;
            while (has(table, row + 1, column) || has(table, row, column + 1)) {
                boolean down = has(table, row + 1, column) && (!has(table, row, column + 1)
                        || table.get(row + 1).get(column) <= table.get(row).get(column + 1));
                int from = down ? table.get(row + 1).get(column) : table.get(row).get(column + 1);
                table.get(row).set(column, from);
                row += down ? 1 : 0;
                column += down ? 0 : 1;
            }
            table.get(row).remove(column);
            if (table.get(row).isEmpty()) {
                table.remove(row);
            }
            lastPlace = 10 * row + column;
            return v;
        }

        public int insert(int t, int v) {
            List<List<Integer>> table = table(t);
            argument(v >= 0 && v <= 99);
            state(!gaps(table).isEmpty());
            remember();
            return put(table, v);
        }

        public int remove(int t, int i, int j) {
            table(t, i, j);
            remember();
            return take(tables.get(t), i, j);
        }

        public int change(int t, int i, int j, int v) {
            List<List<Integer>> table = table(t, i, j);
            argument(v >= 0 && v <= 99);
            remember();
            table.get(i).set(j, v);
            int top = slideUp(table, i, j);
            return slideDown(table, top / 10, top % 10);
        }

        public int transfer(int t, int i, int j) {
            table(t, i, j);
            state(!gaps(tables.get(1 - t)).isEmpty());
            remember();
            return put(tables.get(1 - t), take(tables.get(t), i, j));
        }

        public int transpose(int t) {
            List<List<Integer>> table = table(t);
            remember();
            List<List<Integer>> flipped = new ArrayList<>();
            for (List<Integer> row : table) {
                for (int j = 0; j < row.size(); j++) {
                    if (j == flipped.size()) {
                        flipped.add(new ArrayList<>());
                    }
                    flipped.get(j).add(row.get(j));
                }
            }
            table.clear();
            table.addAll(flipped);
            return table.size();
        }

        public int exchange() {
            remember();
            tables = List.of(tables.get(1), tables.get(0));
            return list(tables.get(0)).size();
        }

        public int undo() {
            state(!past.isEmpty());
            tables = past.removeLast();
            return past.size();
        }

        // -- counting and finding

        public int count(int t, int v) {
            List<List<Integer>> table = table(t);
            argument(v >= 0 && v <= 99);
            return (int) list(table).stream().filter(c -> c[0] <= v).count();
        }

        public int walk(int t, int v, int what) {
            List<List<Integer>> table = table(t);
            argument(v >= 0 && v <= 99 && what >= 0 && what <= 2);
            List<int[]> way = new ArrayList<>();
            int i = 0;
            int j = table.isEmpty() ? 0 : table.get(0).size() - 1;
            boolean going = !table.isEmpty();
            while (going) {
                int number = table.get(i).get(j);
                way.add(new int[] {number, 10 * i + j});
                if (number > v) {
                    going = j > 0;
                    j--;
                } else if (has(table, i + 1, j)) {
                    i++;
                } else if (i + 1 < table.size()) {
                    i++;
                    j = table.get(i).size() - 1;
                } else {
                    going = false;
                }
            }
            int first = way.stream().filter(s -> s[0] == v).mapToInt(s -> s[1]).findFirst()
                    .orElse(NONE);
            int last = way.isEmpty() ? NONE : way.get(way.size() - 1)[1];
            return what == 0 ? way.size() : what == 1 ? first : last;
        }

        public int kth(int t, int k, boolean place) {
            List<int[]> all = list(table(t));
            argument(k >= 0);
            if (k >= all.size()) {
                return NONE;
            }
            int[] c = all.get(k);
            return place ? 10 * c[1] + c[2] : c[0];
        }

        public int rank(int t, int i, int j) {
            List<int[]> all = list(table(t, i, j));
            int k = 0;
            while (all.get(k)[1] != i || all.get(k)[2] != j) {
                k++;
            }
            return k;
        }

        private List<Integer> window(int t, int i, int j, int h, int w) {
            List<Integer> numbers = new ArrayList<>();
            for (int[] c : list(tables.get(t))) {
                if (c[1] >= i && c[1] < i + h && c[2] >= j && c[2] < j + w) {
                    numbers.add(c[0]);
                }
            }
            return numbers;
        }

        private static boolean isWindow(int i, int j, int h, int w) {
            return i >= 0 && i <= 5 && j >= 0 && j <= 5 && h >= 1 && h <= 6 && w >= 1 && w <= 6;
        }

        public int windowCount(int t, int i, int j, int h, int w, int v) {
            table(t);
            argument(isWindow(i, j, h, w) && v >= 0 && v <= 99);
            return (int) window(t, i, j, h, w).stream().filter(n -> n <= v).count();
        }

        public int windowKth(int t, int i, int j, int h, int w, int k) {
            table(t);
            argument(isWindow(i, j, h, w) && k >= 0);
            List<Integer> numbers = window(t, i, j, h, w);
            return k < numbers.size() ? numbers.get(k) : NONE;
        }

        public int kthOfBoth(int k, boolean table) {
            argument(k >= 0);
            List<int[]> all = new ArrayList<>();
            for (int t = 0; t < 2; t++) {
                for (int[] c : list(tables.get(t))) {
                    all.add(new int[] {c[0], t});
                }
            }
            all.sort((a, b) -> a[0] - b[0]);
            return k >= all.size() ? NONE : all.get(k)[table ? 1 : 0];
        }

        private static List<Integer> sums(List<List<List<Integer>>> tables) {
            List<Integer> sums = new ArrayList<>();
            for (int[] a : list(tables.get(0))) {
                for (int[] b : list(tables.get(1))) {
                    sums.add(a[0] + b[0]);
                }
            }
            sums.sort(null);
            return sums;
        }

        public int pairs(int s) {
            argument(s >= 0 && s <= 198);
            return (int) sums(tables).stream().filter(n -> n <= s).count();
        }

        public int kthSum(int k) {
            argument(k >= 0);
            List<Integer> sums = sums(tables);
            return k < sums.size() ? sums.get(k) : NONE;
        }

        // -- shapes, paths, slides

        public int corner(int t, int k, boolean gap) {
            List<List<Integer>> table = table(t);
            argument(k >= 0);
            List<Integer> places = gap ? gaps(table) : corners(table);
            return k < places.size() ? places.get(k) : NONE;
        }

        public int hook(int t, int i, int j) {
            return (int) list(table(t, i, j)).stream()
                    .filter(c -> c[1] == i && c[2] >= j || c[2] == j && c[1] > i).count();
        }

        public long fillings(int t) {
            List<Integer> lengths = new ArrayList<>();
            table(t).forEach(row -> lengths.add(row.size()));
            return fillings(lengths);
        }

        /** The greatest number stands at a corner: what is left is a filling without it. */
        private static long fillings(List<Integer> lengths) {
            if (lengths.isEmpty()) {
                return 1;
            }
            Long known = KNOWN_FILLINGS.get(lengths.toString());
            if (known != null) {
                return known;
            }
            long all = 0;
            for (int i = 0; i < lengths.size(); i++) {
                int next = i + 1 < lengths.size() ? lengths.get(i + 1) : 0;
                if (lengths.get(i) > next) {
                    List<Integer> less = new ArrayList<>(lengths);
                    less.set(i, lengths.get(i) - 1);
                    less.remove((Integer) 0);
                    all += fillings(less);
                }
            }
            KNOWN_FILLINGS.put(lengths.toString(), all);
            return all;
        }

        private static int greatestSum(List<List<Integer>> table, int i, int j) {
            int before = 0;
            if (i > 0) {
                before = Math.max(before, greatestSum(table, i - 1, j));
            }
            if (j > 0) {
                before = Math.max(before, greatestSum(table, i, j - 1));
            }
            return before + table.get(i).get(j);
        }

        public int path(int t, int what) {
            List<List<Integer>> table = table(t);
            argument(what == 0 || what == 1);
            int sum = NONE;
            int end = NONE;
            for (int place : corners(table)) {
                int here = greatestSum(table, place / 10, place % 10);
                if (here > sum) {
                    sum = here;
                    end = place;
                }
            }
            return what == 0 ? sum : end;
        }

        public int ifInserted(int t, int v, boolean slide) {
            List<List<Integer>> table = table(t);
            argument(v >= 0 && v <= 99);
            if (gaps(table).isEmpty()) {
                return NONE;
            }
            int place = put(copy(tables).get(t), v);
            return slide ? moves : place;
        }

        public int ifRemoved(int t, int i, int j) {
            table(t, i, j);
            take(copy(tables).get(t), i, j);
            return lastPlace;
        }

        // -- scripts, simulations

        /** An object of its own, so that a script can use the actions as they are. */
        private Model twin() {
            Model twin = new Model();
            twin.tables = copy(tables);
            return twin;
        }

        public int runScript(int n, long script) {
            argument(n >= 1 && n <= 3 && script >= 0 && Long.toString(script).length() <= 5 * n);
            String digits = String.format("%0" + 5 * n + "d", script);
            Model twin = twin();
            for (int k = 0; k < n; k++) {
                if (!twin.runs(digits.substring(5 * k, 5 * k + 5))) {
                    return k;
                }
            }
            return NONE;
        }

        private boolean runs(String group) {
            int t = group.charAt(1) - '0';
            int i = group.charAt(2) - '0';
            int j = group.charAt(3) - '0';
            int xy = Integer.parseInt(group.substring(3));
            try {
                if (group.matches("1[01]0..")) {
                    insert(t, xy);
                } else if (group.matches("2[01]..0")) {
                    remove(t, i, j);
                } else if (group.matches("3[01]..0")) {
                    transfer(t, i, j);
                } else if (group.matches("4[01]000")) {
                    transpose(t);
                } else if (group.matches("5[01]0..")) {
                    return about(t, 2) == xy;
                } else if (group.matches("6[01]0..")) {
                    return list(table(t)).stream().anyMatch(c -> c[0] == xy);
                } else if (group.matches("7[01]0..")) {
                    return about(t, 4) != NONE && about(t, 4) <= xy;
                } else if (group.matches("80...")) {
                    return pairs(99) == Integer.parseInt(group.substring(2));
                } else {
                    return false;
                }
                return true;
            } catch (IndexOutOfBoundsException | IllegalStateException e) {
                return false;
            }
        }

        public int simulate(long seed, int m) {
            argument(m >= 1 && m <= 60);
            Model twin = twin();
            long x = seed;
            for (int round = 0; round < m; round++) {
                x = x * 6364136223846793005L + 1442695040888963407L;
                int r = (int) (x >>> 33);
                int t = r % 2;
                int n = twin.about(t, 2);
                if (r / 2 % 4 == 0 && n > 0) {
                    int place = twin.kth(t, r / 8 % n, true);
                    twin.remove(t, place / 10, place % 10);
                } else if (twin.about(t, 7) > 0) {
                    twin.insert(t, r / 8 % 100);
                }
            }
            return twin.about(0, 5) + twin.about(1, 5);
        }

        // -- save slots

        public int save(int slot) {
            if (slot != 0 && slot != 1) {
                throw new IndexOutOfBoundsException();
            }
            slots.put(slot, copy(tables));
            return cells(tables);
        }

        public int restore(int slot) {
            if (slot != 0 && slot != 1) {
                throw new IndexOutOfBoundsException();
            }
            state(slots.containsKey(slot));
            tables = copy(slots.get(slot));
            past.clear();
            return cells(tables);
        }
    }
}
