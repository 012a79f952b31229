import java.util.ArrayList;
import java.util.List;

/** All shapes that a table can have, told by the lengths of six rows, and what they look like. */
final class Shapes {
    private static final int SIDE = 6;

    private Shapes() {
    }

    /** From the empty one to the full one: 924. */
    static List<int[]> all() {
        List<int[]> shapes = new ArrayList<>();
        extend(shapes, new int[SIDE], 0);
        return shapes;
    }

    private static void extend(List<int[]> shapes, int[] lengths, int row) {
        if (row == SIDE) {
            shapes.add(lengths.clone());
            return;
        }
        int most = row == 0 ? SIDE : lengths[row - 1];
        for (int length = 0; length <= most; length++) {
            lengths[row] = length;
            extend(shapes, lengths, row + 1);
        }
    }

    static boolean has(int[] lengths, int i, int j) {
        return i >= 0 && i < SIDE && j >= 0 && j < lengths[i];
    }

    static int cells(int[] lengths) {
        int cells = 0;
        for (int length : lengths) {
            cells += length;
        }
        return cells;
    }

    static int rows(int[] lengths) {
        int rows = 0;
        while (rows < SIDE && lengths[rows] > 0) {
            rows++;
        }
        return rows;
    }

    static int column(int[] lengths, int j) {
        int cells = 0;
        for (int length : lengths) {
            cells += length > j ? 1 : 0;
        }
        return cells;
    }

    /** A text of a table in which all numbers are the same. */
    static String text(int[] lengths, int number) {
        StringBuilder text = new StringBuilder();
        for (int i = 0; i < rows(lengths); i++) {
            text.append(i == 0 ? "" : "/");
            text.append(Checks.twoDigits(number).repeat(lengths[i]));
        }
        return text.toString();
    }

    static List<Integer> corners(int[] lengths) {
        List<Integer> corners = new ArrayList<>();
        for (int place : places()) {
            int i = place / 10;
            int j = place % 10;
            if (has(lengths, i, j) && !has(lengths, i, j + 1) && !has(lengths, i + 1, j)) {
                corners.add(place);
            }
        }
        return corners;
    }

    /** Tried out: a cell is put there, and the form must still be that of a table. */
    static List<Integer> gaps(int[] lengths) {
        List<Integer> gaps = new ArrayList<>();
        for (int place : places()) {
            int i = place / 10;
            int j = place % 10;
            boolean behindRow = lengths[i] == j;
            boolean notTooLong = i == 0 || lengths[i - 1] > j;
            if (behindRow && notTooLong) {
                gaps.add(place);
            }
        }
        return gaps;
    }

    /** By rows, among these by columns, as 10 * row + column. */
    static List<Integer> places() {
        List<Integer> places = new ArrayList<>();
        for (int i = 0; i < SIDE; i++) {
            for (int j = 0; j < SIDE; j++) {
                places.add(10 * i + j);
            }
        }
        return places;
    }
}
