/**
 * Two tables of numbers that are sorted in both directions, with slides, walks, counts and undo.
 *
 * <p>Every row that a call needs is made in the constructor and used again, so that no call makes
 * an object.
 */
public final class SortedTables {
    public static final int NONE = -9;

    private static final int SIDE = 6;
    private static final int LAST = SIDE - 1;
    private static final int PLACES = SIDE * SIDE;
    private static final int PAIR_PLACES = 2 * PLACES;
    /** A slide or a walk goes one row or one column further at each step, never back. */
    private static final int LONGEST_WAY = 2 * SIDE;

    private static final int GREATEST = 99;
    private static final int GREATEST_SUM = 2 * GREATEST;
    /** Stands where there is no cell: less than all numbers, so nothing slides up over it. */
    private static final int ABSENT = -1;
    /** Greater than all numbers: a hole slides down like a number that every cell is less than. */
    private static final int HOLE = GREATEST + 1;

    private static final int GREATEST_CODE = 255;
    private static final int TEXT_LIMIT = 160;
    private static final int REMEMBERED_LIMIT = 14;
    private static final int GREATEST_SCRIPT = 3;
    private static final int GROUP = 100000;
    private static final int GREATEST_ROUNDS = 60;
    /** The primes up to the greatest number of cells. */
    private static final int[] PRIMES = {2, 3, 5, 7, 11, 13, 17, 19, 23, 29, 31};

    private final Pair now = new Pair();
    /** What only would happen is done on this copy. */
    private final Pair trial = new Pair();
    private final Past past = new Past();
    private final Text text = new Text();
    private final Reader reader = new Reader();
    private final Slot slot0 = new Slot();
    private final Slot slot1 = new Slot();
    private final GreatestPath greatestPath = new GreatestPath();
    private final Fillings fillingsOfShape = new Fillings();

    public SortedTables() {
    }

    // ---- text

    public int append(int c) throws IllegalArgumentException, IllegalStateException {
        requireRange(c, 0, GREATEST_CODE);
        if (text.isFull()) {
            throw new IllegalStateException("the text is full");
        }
        text.add(c);
        return text.length();
    }

    public int clearText() {
        int previous = text.length();
        text.empty();
        return previous;
    }

    public int errorPosition() {
        return reader.read(text);
    }

    public int load() throws IllegalStateException {
        if (reader.read(text) != NONE) {
            throw new IllegalStateException("the text is not a text of the tables");
        }
        now.copyFrom(reader.tables());
        past.forgetAll();
        slot0.empty();
        slot1.empty();
        return now.cells();
    }

    // ---- what there is

    public int about(int t, int what) throws IndexOutOfBoundsException, IllegalArgumentException {
        Table table = existingTable(t);
        requireRange(what, 0, 7);
        switch (what) {
            case 0:
                return table.columnLength(0);
            case 1:
                return table.rowLength(0);
            case 2:
                return table.cells();
            case 3:
                return table.has(0, 0) ? table.at(0, 0) : NONE;
            case 4:
                return table.greatest();
            case 5:
                return table.sum();
            case 6:
                return table.ends(false);
            default:
                return table.ends(true);
        }
    }

    public int cell(int t, int i, int j) throws IndexOutOfBoundsException {
        return tableWithCell(t, i, j).at(i, j);
    }

    public int size(int t, int k, boolean column)
            throws IndexOutOfBoundsException, IllegalArgumentException {
        Table table = existingTable(t);
        requireRange(k, 0, LAST);
        return column ? table.columnLength(k) : table.rowLength(k);
    }

    // ---- actions

    public int insert(int t, int v)
            throws IndexOutOfBoundsException, IllegalArgumentException, IllegalStateException {
        Table table = existingTable(t);
        requireRange(v, 0, GREATEST);
        requireGap(table);
        past.remember(now);
        return table.takeIn(v);
    }

    public int remove(int t, int i, int j) throws IndexOutOfBoundsException {
        Table table = tableWithCell(t, i, j);
        int number = table.at(i, j);
        past.remember(now);
        table.takeAway(i, j);
        return number;
    }

    public int change(int t, int i, int j, int v)
            throws IndexOutOfBoundsException, IllegalArgumentException {
        Table table = tableWithCell(t, i, j);
        requireRange(v, 0, GREATEST);
        past.remember(now);
        return table.replace(i, j, v);
    }

    public int transfer(int t, int i, int j)
            throws IndexOutOfBoundsException, IllegalStateException {
        tableWithCell(t, i, j);
        requireGap(now.table(1 - t));
        past.remember(now);
        return now.moveOver(t, i, j);
    }

    public int transpose(int t) throws IndexOutOfBoundsException {
        Table table = existingTable(t);
        past.remember(now);
        table.flip();
        return table.columnLength(0);
    }

    public int exchange() {
        past.remember(now);
        now.swap();
        return now.table(0).cells();
    }

    public int undo() throws IllegalStateException {
        if (past.isEmpty()) {
            throw new IllegalStateException("no state is remembered");
        }
        past.takeBack(now);
        return past.remembered();
    }

    // ---- counting and finding

    public int count(int t, int v) throws IndexOutOfBoundsException, IllegalArgumentException {
        Table table = existingTable(t);
        requireRange(v, 0, GREATEST);
        return table.cellsUpTo(v);
    }

    public int walk(int t, int v, int what)
            throws IndexOutOfBoundsException, IllegalArgumentException {
        Table table = existingTable(t);
        requireRange(v, 0, GREATEST);
        requireRange(what, 0, 2);
        return table.tellWalk(v, what);
    }

    public int kth(int t, int k, boolean place)
            throws IndexOutOfBoundsException, IllegalArgumentException {
        Table table = existingTable(t);
        requireNotNegative(k);
        return place ? table.kthPlace(k) : table.kthNumber(k);
    }

    public int rank(int t, int i, int j) throws IndexOutOfBoundsException {
        return tableWithCell(t, i, j).cellsBefore(i, j);
    }

    public int windowCount(int t, int i, int j, int h, int w, int v)
            throws IndexOutOfBoundsException, IllegalArgumentException {
        Table table = existingTable(t);
        requireWindow(i, j, h, w);
        requireRange(v, 0, GREATEST);
        return table.countWithin(i, j, lastOf(i, h), lastOf(j, w), v);
    }

    public int windowKth(int t, int i, int j, int h, int w, int k)
            throws IndexOutOfBoundsException, IllegalArgumentException {
        Table table = existingTable(t);
        requireWindow(i, j, h, w);
        requireNotNegative(k);
        return table.kthWithin(i, j, lastOf(i, h), lastOf(j, w), k);
    }

    // ---- both tables

    public int kthOfBoth(int k, boolean table) throws IllegalArgumentException {
        requireNotNegative(k);
        int number = now.kthNumberOfBoth(k);
        return table && number != NONE ? now.tableOfKth(k, number) : number;
    }

    public int pairs(int s) throws IllegalArgumentException {
        requireRange(s, 0, GREATEST_SUM);
        return now.pairsUpTo(s);
    }

    public int kthSum(int k) throws IllegalArgumentException {
        requireNotNegative(k);
        return now.kthSumOfPair(k);
    }

    // ---- shapes, paths, slides

    public int corner(int t, int k, boolean gap)
            throws IndexOutOfBoundsException, IllegalArgumentException {
        Table table = existingTable(t);
        requireNotNegative(k);
        return table.kthEnd(k, gap);
    }

    public int hook(int t, int i, int j) throws IndexOutOfBoundsException {
        return tableWithCell(t, i, j).hookOf(i, j);
    }

    public long fillings(int t) throws IndexOutOfBoundsException {
        return fillingsOfShape.countFor(existingTable(t));
    }

    public int path(int t, int what) throws IndexOutOfBoundsException, IllegalArgumentException {
        Table table = existingTable(t);
        requireRange(what, 0, 1);
        greatestPath.search(table);
        return what == 0 ? greatestPath.sum() : greatestPath.end();
    }

    public int ifInserted(int t, int v, boolean slide)
            throws IndexOutOfBoundsException, IllegalArgumentException {
        Table table = existingTable(t);
        requireRange(v, 0, GREATEST);
        if (table.isFull()) {
            return NONE;
        }
        int start = table.nearestGap();
        Table copy = trial.table(0);
        copy.copyFrom(table);
        int end = copy.takeIn(v);
        return slide ? stepsFromOrigin(start) - stepsFromOrigin(end) : end;
    }

    public int ifRemoved(int t, int i, int j) throws IndexOutOfBoundsException {
        Table table = tableWithCell(t, i, j);
        Table copy = trial.table(0);
        copy.copyFrom(table);
        return copy.takeAway(i, j);
    }

    // ---- scripts, simulations

    public int runScript(int n, long script) throws IllegalArgumentException {
        requireRange(n, 1, GREATEST_SCRIPT);
        if (script < 0 || script >= Script.limit(n)) {
            throw new IllegalArgumentException("the script is negative or too long");
        }
        trial.copyFrom(now);
        for (int k = 0; k < n; k++) {
            if (!Script.succeeds(trial, Script.group(script, n - 1 - k))) {
                return k;
            }
        }
        return NONE;
    }

    public int simulate(long seed, int m) throws IllegalArgumentException {
        requireRange(m, 1, GREATEST_ROUNDS);
        trial.copyFrom(now);
        long x = seed;
        for (int round = 0; round < m; round++) {
            x = x * 6364136223846793005L + 1442695040888963407L;
            simulateRound((int) (x >>> 33));
        }
        return trial.table(0).sum() + trial.table(1).sum();
    }

    private void simulateRound(int r) {
        Table table = trial.table(r % 2);
        int cells = table.cells();
        if (r / 2 % 4 == 0 && cells > 0) {
            int place = table.kthPlace(r / 8 % cells);
            table.takeAway(rowOf(place), columnOf(place));
        } else if (!table.isFull()) {
            table.takeIn(r / 8 % 100);
        }
    }

    // ---- save slots

    public int save(int slot) throws IndexOutOfBoundsException {
        existingSlot(slot).fill(now);
        return now.cells();
    }

    public int restore(int slot) throws IndexOutOfBoundsException, IllegalStateException {
        Slot from = existingSlot(slot);
        if (!from.isFilled()) {
            throw new IllegalStateException("nothing is saved in the slot");
        }
        now.copyFrom(from.tables());
        past.forgetAll();
        return now.cells();
    }

    // ---- what the calls ask of their arguments

    private Table existingTable(int t) throws IndexOutOfBoundsException {
        if (t < 0 || t > 1) {
            throw new IndexOutOfBoundsException("there is no such table");
        }
        return now.table(t);
    }

    private Table tableWithCell(int t, int i, int j) throws IndexOutOfBoundsException {
        Table table = existingTable(t);
        if (!table.has(i, j)) {
            throw new IndexOutOfBoundsException("there is no such cell");
        }
        return table;
    }

    private Slot existingSlot(int slot) throws IndexOutOfBoundsException {
        if (slot < 0 || slot > 1) {
            throw new IndexOutOfBoundsException("there is no such slot");
        }
        return slot == 0 ? slot0 : slot1;
    }

    private static void requireRange(int value, int least, int most)
            throws IllegalArgumentException {
        if (value < least || value > most) {
            throw new IllegalArgumentException("an argument is out of its range");
        }
    }

    private static void requireNotNegative(int k) throws IllegalArgumentException {
        if (k < 0) {
            throw new IllegalArgumentException("an argument is negative");
        }
    }

    private static void requireWindow(int i, int j, int h, int w) throws IllegalArgumentException {
        requireRange(i, 0, LAST);
        requireRange(j, 0, LAST);
        requireRange(h, 1, SIDE);
        requireRange(w, 1, SIDE);
    }

    private static void requireGap(Table table) throws IllegalStateException {
        if (table.isFull()) {
            throw new IllegalStateException("the table has no gap");
        }
    }

    // ---- places

    private static int placeOf(int i, int j) {
        return 10 * i + j;
    }

    private static int rowOf(int place) {
        return place / 10;
    }

    private static int columnOf(int place) {
        return place % 10;
    }

    private static int stepsFromOrigin(int place) {
        return rowOf(place) + columnOf(place);
    }

    private static int lastOf(int start, int length) {
        return Math.min(start + length - 1, LAST);
    }

    /** One table; a place without a cell holds ABSENT, so the numbers tell the shape as well. */
    private static final class Table {
        private final int[] numbers = new int[PLACES];

        Table() {
            wipe();
        }

        int at(int i, int j) {
            if (i < 0 || i >= SIDE || j < 0 || j >= SIDE) {
                return ABSENT;
            }
            return numbers[i * SIDE + j];
        }

        boolean has(int i, int j) {
            return at(i, j) != ABSENT;
        }

        void put(int i, int j, int number) {
            if (i >= 0 && i < SIDE && j >= 0 && j < SIDE) {
                numbers[i * SIDE + j] = number;
            }
        }

        void wipe() {
            for (int k = 0; k < PLACES; k++) {
                numbers[k] = ABSENT;
            }
        }

        void copyFrom(Table other) {
            System.arraycopy(other.numbers, 0, numbers, 0, PLACES);
        }

        void writeTo(int[] row, int start) {
            if (start >= 0 && start <= row.length - PLACES) {
                System.arraycopy(numbers, 0, row, start, PLACES);
            }
        }

        void readFrom(int[] row, int start) {
            if (start >= 0 && start <= row.length - PLACES) {
                System.arraycopy(row, start, numbers, 0, PLACES);
            }
        }

        void swapWith(Table other) {
            for (int k = 0; k < PLACES; k++) {
                int number = numbers[k];
                numbers[k] = other.numbers[k];
                other.numbers[k] = number;
            }
        }

        void flip() {
            for (int i = 0; i < SIDE; i++) {
                for (int j = 0; j < i; j++) {
                    int number = at(i, j);
                    put(i, j, at(j, i));
                    put(j, i, number);
                }
            }
        }

        // ---- shape

        int rowLength(int i) {
            if (i < 0 || i >= SIDE) {
                return 0;
            }
            int length = 0;
            for (int j = 0; j < SIDE; j++) {
                if (numbers[i * SIDE + j] != ABSENT) {
                    length++;
                }
            }
            return length;
        }

        int columnLength(int j) {
            int length = 0;
            for (int i = 0; i < SIDE; i++) {
                if (at(i, j) != ABSENT) {
                    length++;
                }
            }
            return length;
        }

        int cells() {
            int cells = 0;
            for (int i = 0; i < SIDE; i++) {
                cells += rowLength(i);
            }
            return cells;
        }

        /** The last place of all can be taken only when no gap is left. */
        boolean isFull() {
            return has(LAST, LAST);
        }

        boolean hasCorner(int i) {
            return rowLength(i) > rowLength(i + 1);
        }

        boolean hasGap(int i) {
            return rowLength(i) < (i == 0 ? SIDE : rowLength(i - 1));
        }

        private boolean endsAt(int i, boolean gap) {
            return gap ? hasGap(i) : hasCorner(i);
        }

        /** Counts the gaps or the corners: each row has at most one of either. */
        int ends(boolean gap) {
            int ends = 0;
            for (int i = 0; i < SIDE; i++) {
                if (endsAt(i, gap)) {
                    ends++;
                }
            }
            return ends;
        }

        int kthEnd(int k, boolean gap) {
            int before = 0;
            for (int i = 0; i < SIDE; i++) {
                if (endsAt(i, gap)) {
                    if (before == k) {
                        return placeOf(i, gap ? rowLength(i) : rowLength(i) - 1);
                    }
                    before++;
                }
            }
            return NONE;
        }

        int nearestGap() {
            int nearest = NONE;
            int fewest = LONGEST_WAY;
            int lengthAbove = SIDE;
            for (int i = 0; i < SIDE; i++) {
                int j = rowLength(i);
                if (j < lengthAbove && i + j < fewest) {
                    nearest = placeOf(i, j);
                    fewest = i + j;
                }
                lengthAbove = j;
            }
            return nearest;
        }

        int hookOf(int i, int j) {
            return rowLength(i) - j + columnLength(j) - i - 1;
        }

        // ---- slides

        /** Answers where the number is at the end; NONE, with nothing changed, without a gap. */
        int takeIn(int number) {
            int gap = nearestGap();
            if (gap == NONE) {
                return NONE;
            }
            put(rowOf(gap), columnOf(gap), number);
            return slideUp(rowOf(gap), columnOf(gap));
        }

        /** Answers where the hole ceases to exist. */
        int takeAway(int i, int j) {
            put(i, j, HOLE);
            int end = slideDown(i, j);
            put(rowOf(end), columnOf(end), ABSENT);
            return end;
        }

        int replace(int i, int j, int number) {
            put(i, j, number);
            int top = slideUp(i, j);
            return slideDown(rowOf(top), columnOf(top));
        }

        private int slideUp(int startRow, int startColumn) {
            int i = startRow;
            int j = startColumn;
            int number = at(i, j);
            for (int step = 0; step < LONGEST_WAY; step++) {
                int above = at(i - 1, j);
                int left = at(i, j - 1);
                if (above <= number && left <= number) {
                    break;
                }
                if (above >= left) {
                    put(i, j, above);
                    i--;
                } else {
                    put(i, j, left);
                    j--;
                }
                put(i, j, number);
            }
            return placeOf(i, j);
        }

        private int slideDown(int startRow, int startColumn) {
            int i = startRow;
            int j = startColumn;
            int number = at(i, j);
            for (int step = 0; step < LONGEST_WAY; step++) {
                int below = orHole(at(i + 1, j));
                int right = orHole(at(i, j + 1));
                if (below >= number && right >= number) {
                    break;
                }
                if (below <= right) {
                    put(i, j, below);
                    i++;
                } else {
                    put(i, j, right);
                    j++;
                }
                put(i, j, number);
            }
            return placeOf(i, j);
        }

        /** Beyond the cells nothing may slide down, so what is there counts as too great. */
        private static int orHole(int number) {
            return number == ABSENT ? HOLE : number;
        }

        // ---- numbers

        int greatest() {
            int greatest = NONE;
            for (int k = 0; k < PLACES; k++) {
                if (numbers[k] != ABSENT) {
                    greatest = Math.max(greatest, numbers[k]);
                }
            }
            return greatest;
        }

        int sum() {
            int sum = 0;
            for (int k = 0; k < PLACES; k++) {
                if (numbers[k] != ABSENT) {
                    sum += numbers[k];
                }
            }
            return sum;
        }

        int cellsUpTo(int v) {
            return countWithin(0, 0, LAST, LAST, v);
        }

        /** Goes down the right edge of the counted cells, which never turns right again. */
        int countWithin(int top, int left, int bottom, int right, int v) {
            int counted = 0;
            int j = right;
            for (int i = top; i <= bottom; i++) {
                while (j >= left && isNotUpTo(at(i, j), v)) {
                    j--;
                }
                counted += j - left + 1;
            }
            return counted;
        }

        private static boolean isNotUpTo(int number, int v) {
            return number == ABSENT || number > v;
        }

        int kthNumber(int k) {
            return kthWithin(0, 0, LAST, LAST, k);
        }

        /** Answers the smallest number with more than k cells up to it: how many have not. */
        int kthWithin(int top, int left, int bottom, int right, int k) {
            if (countWithin(top, left, bottom, right, GREATEST) <= k) {
                return NONE;
            }
            int tooSmall = 0;
            for (int step = 64; step > 0; step /= 2) {
                if (countWithin(top, left, bottom, right, tooSmall + step - 1) <= k) {
                    tooSmall += step;
                }
            }
            return tooSmall;
        }

        int kthPlace(int k) {
            int number = kthNumber(k);
            if (number == NONE) {
                return NONE;
            }
            int equalBefore = k - cellsUpTo(number - 1);
            for (int i = 0; i < SIDE; i++) {
                for (int j = 0; j < SIDE; j++) {
                    if (at(i, j) == number) {
                        if (equalBefore == 0) {
                            return placeOf(i, j);
                        }
                        equalBefore--;
                    }
                }
            }
            return NONE;
        }

        int cellsBefore(int row, int column) {
            int number = at(row, column);
            int before = cellsUpTo(number - 1);
            for (int i = 0; i <= row && i < SIDE; i++) {
                int end = i < row ? SIDE : column;
                for (int j = 0; j < end; j++) {
                    if (at(i, j) == number) {
                        before++;
                    }
                }
            }
            return before;
        }

        int tellWalk(int v, int what) {
            int i = 0;
            int j = rowLength(0) - 1;
            int steps = 0;
            int found = NONE;
            int last = NONE;
            while (steps < LONGEST_WAY && has(i, j)) {
                steps++;
                last = placeOf(i, j);
                if (found == NONE && at(i, j) == v) {
                    found = last;
                }
                if (at(i, j) > v) {
                    j--;
                } else {
                    i++;
                    j = Math.min(j, rowLength(i) - 1);
                }
            }
            if (what == 0) {
                return steps;
            }
            return what == 1 ? found : last;
        }
    }

    /** Both tables. */
    private static final class Pair {
        private final Table first = new Table();
        private final Table second = new Table();

        Table table(int t) {
            return t == 0 ? first : second;
        }

        void copyFrom(Pair other) {
            first.copyFrom(other.first);
            second.copyFrom(other.second);
        }

        void writeTo(int[] row, int start) {
            first.writeTo(row, start);
            second.writeTo(row, start + PLACES);
        }

        void readFrom(int[] row, int start) {
            first.readFrom(row, start);
            second.readFrom(row, start + PLACES);
        }

        void wipe() {
            first.wipe();
            second.wipe();
        }

        void swap() {
            first.swapWith(second);
        }

        int cells() {
            return first.cells() + second.cells();
        }

        /** Answers the place in the other table, which must have a gap. */
        int moveOver(int t, int i, int j) {
            Table from = table(t);
            int number = from.at(i, j);
            from.takeAway(i, j);
            return table(1 - t).takeIn(number);
        }

        private int cellsUpTo(int v) {
            return first.cellsUpTo(v) + second.cellsUpTo(v);
        }

        int kthNumberOfBoth(int k) {
            if (cellsUpTo(GREATEST) <= k) {
                return NONE;
            }
            int tooSmall = 0;
            for (int step = 64; step > 0; step /= 2) {
                if (cellsUpTo(tooSmall + step - 1) <= k) {
                    tooSmall += step;
                }
            }
            return tooSmall;
        }

        int tableOfKth(int k, int number) {
            int beforeSecond = first.cellsUpTo(number) + second.cellsUpTo(number - 1);
            return k < beforeSecond ? 0 : 1;
        }

        int pairsUpTo(int s) {
            int counted = 0;
            for (int i = 0; i < SIDE; i++) {
                for (int j = 0; j < SIDE; j++) {
                    if (first.has(i, j)) {
                        counted += second.cellsUpTo(s - first.at(i, j));
                    }
                }
            }
            return counted;
        }

        int kthSumOfPair(int k) {
            if (pairsUpTo(GREATEST_SUM) <= k) {
                return NONE;
            }
            int tooSmall = 0;
            for (int step = 128; step > 0; step /= 2) {
                if (pairsUpTo(tooSmall + step - 1) <= k) {
                    tooSmall += step;
                }
            }
            return tooSmall;
        }
    }

    /** The remembered states, in a ring, so that the oldest one gives its room to the newest. */
    private static final class Past {
        private final int[] numbers = new int[REMEMBERED_LIMIT * PAIR_PLACES];
        private int oldest = 0;
        private int remembered = 0;

        boolean isEmpty() {
            return remembered == 0;
        }

        int remembered() {
            return remembered;
        }

        void forgetAll() {
            remembered = 0;
        }

        void remember(Pair tables) {
            if (remembered == REMEMBERED_LIMIT) {
                oldest = (oldest + 1) % REMEMBERED_LIMIT;
                remembered--;
            }
            tables.writeTo(numbers, startBehindNewest());
            remembered++;
        }

        void takeBack(Pair tables) {
            if (remembered > 0) {
                remembered--;
                tables.readFrom(numbers, startBehindNewest());
            }
        }

        private int startBehindNewest() {
            return (oldest + remembered) % REMEMBERED_LIMIT * PAIR_PLACES;
        }
    }

    /** A save slot. */
    private static final class Slot {
        private final Pair tables = new Pair();
        private boolean filled = false;

        boolean isFilled() {
            return filled;
        }

        Pair tables() {
            return tables;
        }

        void fill(Pair present) {
            tables.copyFrom(present);
            filled = true;
        }

        void empty() {
            filled = false;
        }
    }

    /** The text buffer. */
    private static final class Text {
        private final int[] codes = new int[TEXT_LIMIT];
        private int length = 0;

        int length() {
            return length;
        }

        boolean isFull() {
            return length >= TEXT_LIMIT;
        }

        int codeAt(int k) {
            return k >= 0 && k < length && k < TEXT_LIMIT ? codes[k] : ABSENT;
        }

        void add(int code) {
            if (!isFull()) {
                codes[length] = code;
                length++;
            }
        }

        void empty() {
            length = 0;
        }
    }

    /** Reads a text from left to right, and puts the cells into a pair of tables of its own. */
    private static final class Reader {
        private final Pair tables = new Pair();
        private boolean begun = false;
        private int table = 0;
        private int row = 0;
        /** Where the next number of the row goes. */
        private int column = 0;
        /** The first digit of a number whose second digit is due; ABSENT between numbers. */
        private int tens = ABSENT;

        /** What was read last; they are whole only if it was a text of the tables. */
        Pair tables() {
            return tables;
        }

        /** Answers the error position. */
        int read(Text text) {
            tables.wipe();
            begun = false;
            begin(0);
            int length = text.length();
            for (int k = 0; k < length; k++) {
                if (!takes(text.codeAt(k))) {
                    return k;
                }
            }
            return begun && table == 1 && canEndTable() ? NONE : length;
        }

        private void begin(int t) {
            table = t;
            row = 0;
            column = 0;
            tens = ABSENT;
        }

        private boolean takes(int code) {
            if (!begun) {
                begun = code == 'T';
                return begun;
            }
            if (code >= '0' && code <= '9') {
                return tens == ABSENT ? takesTens(code - '0') : takesUnits(code - '0');
            }
            if (code == '/') {
                return takesSlash();
            }
            return code == ';' && takesSemicolon();
        }

        private boolean takesTens(int digit) {
            Table target = tables.table(table);
            int limit = row == 0 ? SIDE : target.rowLength(row - 1);
            if (column >= limit || 10 * digit + 9 < leastNumber(target)) {
                return false;
            }
            tens = digit;
            return true;
        }

        private boolean takesUnits(int digit) {
            Table target = tables.table(table);
            int number = 10 * tens + digit;
            if (number < leastNumber(target)) {
                return false;
            }
            target.put(row, column, number);
            column++;
            tens = ABSENT;
            return true;
        }

        private int leastNumber(Table target) {
            return Math.max(target.at(row - 1, column), target.at(row, column - 1));
        }

        private boolean takesSlash() {
            if (tens != ABSENT || column == 0 || row == LAST) {
                return false;
            }
            row++;
            column = 0;
            return true;
        }

        private boolean takesSemicolon() {
            if (table != 0 || !canEndTable()) {
                return false;
            }
            begin(1);
            return true;
        }

        /** Behind a slash a row is due; but a table may be nothing at all. */
        private boolean canEndTable() {
            return tens == ABSENT && (column > 0 || row == 0);
        }
    }

    /** Searches the greatest path of a table. */
    private static final class GreatestPath {
        /** For each column the greatest sum of a path to it, in the last row that was gone over. */
        private final int[] sums = new int[SIDE];
        private int sum = NONE;
        private int end = NONE;

        int sum() {
            return sum;
        }

        int end() {
            return end;
        }

        void search(Table table) {
            sum = NONE;
            end = NONE;
            for (int j = 0; j < SIDE; j++) {
                sums[j] = 0;
            }
            for (int i = 0; i < SIDE; i++) {
                goOverRow(table, i);
                if (table.hasCorner(i)) {
                    endAt(i, table.rowLength(i) - 1);
                }
            }
        }

        private void goOverRow(Table table, int i) {
            int left = 0;
            for (int j = 0; j < SIDE; j++) {
                if (table.has(i, j)) {
                    left = table.at(i, j) + Math.max(sums[j], left);
                    sums[j] = left;
                }
            }
        }

        private void endAt(int i, int j) {
            if (j >= 0 && j < SIDE && sums[j] > sum) {
                sum = sums[j];
                end = placeOf(i, j);
            }
        }
    }

    /**
     * Counts by the hook formula: the factorial of the number of cells, divided by all hooks. It is
     * taken prime by prime, as the factorial is too great for a long while the answer is not.
     */
    private static final class Fillings {
        /** How often each factor stands above the fraction line, less how often below it. */
        private final int[] times = new int[PLACES + 1];

        long countFor(Table table) {
            int cells = table.cells();
            for (int factor = 0; factor <= PLACES; factor++) {
                times[factor] = factor >= 1 && factor <= cells ? 1 : 0;
            }
            divideByHooks(table);
            long count = 1;
            for (int prime : PRIMES) {
                int power = powerOf(prime);
                for (int k = 0; k < power; k++) {
                    count *= prime;
                }
            }
            return count;
        }

        private void divideByHooks(Table table) {
            for (int i = 0; i < SIDE; i++) {
                for (int j = 0; j < SIDE; j++) {
                    int hook = table.has(i, j) ? table.hookOf(i, j) : 0;
                    if (hook >= 1 && hook <= PLACES) {
                        times[hook]--;
                    }
                }
            }
        }

        private int powerOf(int prime) {
            int power = 0;
            for (int factor = 1; factor <= PLACES; factor++) {
                power += times[factor] * powerIn(factor, prime);
            }
            return power;
        }

        private static int powerIn(int factor, int prime) {
            int power = 0;
            for (int divisor = prime; divisor > 1 && divisor <= PLACES; divisor *= prime) {
                if (factor % divisor == 0) {
                    power++;
                }
            }
            return power;
        }
    }

    /** The commands of a script. */
    private static final class Script {
        private static final int PAIRS_SUM = 99;

        /** The smallest number that is too long for n groups. */
        static long limit(int n) {
            long limit = 1;
            for (int k = 0; k < n; k++) {
                limit *= GROUP;
            }
            return limit;
        }

        static int group(long script, int groupsBehind) {
            long rest = script;
            for (int k = 0; k < groupsBehind; k++) {
                rest /= GROUP;
            }
            return (int) (rest % GROUP);
        }

        static boolean succeeds(Pair tables, int group) {
            int command = group / 10000;
            int t = group / 1000 % 10;
            int rest = group % 1000;
            if (t > 1) {
                return false;
            }
            switch (command) {
                case 2:
                case 3:
                    return rest % 10 == 0 && takesCell(tables, command, t, rest / 10);
                case 4:
                    return rest == 0 && transposes(tables.table(t));
                case 8:
                    return t == 0 && tables.pairsUpTo(PAIRS_SUM) == rest;
                default:
                    return rest <= GREATEST && succeedsWith(tables.table(t), command, rest);
            }
        }

        private static boolean takesCell(Pair tables, int command, int t, int place) {
            int i = rowOf(place);
            int j = columnOf(place);
            if (!tables.table(t).has(i, j)) {
                return false;
            }
            if (command == 2) {
                tables.table(t).takeAway(i, j);
                return true;
            }
            if (tables.table(1 - t).isFull()) {
                return false;
            }
            tables.moveOver(t, i, j);
            return true;
        }

        private static boolean transposes(Table table) {
            table.flip();
            return true;
        }

        private static boolean succeedsWith(Table table, int command, int number) {
            switch (command) {
                case 1:
                    return table.takeIn(number) != NONE;
                case 5:
                    return table.cells() == number;
                case 6:
                    return table.cellsUpTo(number) > table.cellsUpTo(number - 1);
                case 7:
                    return table.has(0, 0) && table.greatest() <= number;
                default:
                    return false;
            }
        }
    }
}
