/** Promises 1 to 8: a new object, rows, and what shelves hold. */
public final class ShelvesTest {
    private static final Due DUE = new Due();

    public static void main(String[] args) {
        newObject();
        row();
        set();
        copy();
        copyRefused();
        element();
        show();
        says();
        saysRefused();
        DUE.end("ShelvesTest");
    }

    private static void newObject() {
        WindowsLookedOut x = new WindowsLookedOut();
        int[] numbers = {0, 0, 0, 4, 0, 0, 0, 1, 0};
        for (int what = 0; what < numbers.length; what++) {
            DUE.is("new: status(" + what + ")", x.status(what), numbers[what]);
        }
        DUE.refused(x, 0, 0, 0, 0, 0, 0, 0);
        for (int s = 0; s < 8; s++) {
            DUE.is("new: holds(" + s + ")", x.holds(s), -1);
        }
        for (int square = 0; square < 49; square++) {
            DUE.is("new: seen(" + square + ", 1)", x.seen(square, 1), 0);
            DUE.is("new: seen(" + square + ", 0)", x.seen(square, 0), 0);
        }
        DUE.is("new: fault()", x.fault(), -1);
        DUE.is("new: trace(0)", x.trace(0), -1);
        DUE.is("new: all()", x.all(), 0);
    }

    private static void row() {
        WindowsLookedOut x = new WindowsLookedOut();
        DUE.is("row(0, 0, 5)", x.row(0, 0, 5), 1);
        DUE.is("holds(0)", x.holds(0), 100);
        x.set(0, 4, 9);
        DUE.is("row(8, 9, -1)", x.row(8, 9, -1), -1);
        DUE.is("row(-1, 0, 1)", x.row(-1, 0, 1), -1);
        DUE.is("row(0, 9, -1)", x.row(0, 9, -1), -4);
        DUE.is("row(0, 4, 161)", x.row(0, 4, 161), -6);
        DUE.is("row(0, -1, 1)", x.row(0, -1, 1), -6);
        DUE.is("row(0, 1, 161)", x.row(0, 1, 161), -7);
        DUE.is("row(0, 1, MAX)", x.row(0, 1, Integer.MAX_VALUE), -7);
        DUE.is("holds(0) after refusals", x.holds(0), 100);
        DUE.is("element(0, 4) after refusals", x.element(0, 4), 9);
        DUE.refused(x, 2, 0, 0, 1, 0, 2, 2);
        x.set(0, 0, 9);
        DUE.is("row(0, 3, 160)", x.row(0, 3, 160), 1);
        DUE.is("element(0, 0) of the new row", x.element(0, 0), 0);
        DUE.is("element(0, 4) of the new row", x.element(0, 4), 0);
        DUE.is("set(0, 159, 1)", x.set(0, 159, 1), 1);
        DUE.is("set(0, 160, 1)", x.set(0, 160, 1), -5);
        DUE.is("row(7, 2, 0)", x.row(7, 2, 0), 1);
        DUE.is("holds(7)", x.holds(7), 102);
        DUE.is("set(7, 0, 1)", x.set(7, 0, 1), -5);
    }

    private static void set() {
        WindowsLookedOut x = Due.townOf("house 24;pane 0 3 24 0");
        long[][] kept = {
            {0, 200, -56}, {0, 256, 0}, {0, -129, 127}, {1, 40000, -25536}, {1, 1L << 16, 0},
            {2, (1L << 32) + 7, 7}, {2, 1L << 31, Integer.MIN_VALUE},
            {3, Long.MIN_VALUE, Long.MIN_VALUE}, {3, (1L << 32) + 7, (1L << 32) + 7},
        };
        for (long[] one : kept) {
            x.row(0, (int) one[0], 2);
            DUE.is("set(0, 1, " + one[1] + ")", x.set(0, 1, one[1]), 1);
            DUE.is("sort " + one[0] + ": element(0, 1)", x.element(0, 1), one[2]);
            DUE.is("element(0, 0)", x.element(0, 0), 0);
        }
        x.show(1, 0);
        DUE.is("set(8, 0, 0)", x.set(8, 0, 0), -1);
        DUE.is("set(1, 9, 0)", x.set(1, 9, 0), -2);
        DUE.is("set(2, 9, 0)", x.set(2, 9, 0), -3);
        DUE.is("set(0, 2, 0)", x.set(0, 2, 0), -5);
        DUE.is("set(0, -1, 0)", x.set(0, -1, 0), -5);
        DUE.refused(x, 1, 1, 1, 0, 2, 0, 0);
    }

    private static void copy() {
        WindowsLookedOut x = new WindowsLookedOut();
        Due.ints(x, 0, 1, 2, 3, 4, 5);
        DUE.is("copy(0, 0, 0, 1, 4)", x.copy(0, 0, 0, 1, 4), 1);
        isRow(x, 0, 1, 1, 2, 3, 4);
        Due.ints(x, 0, 1, 2, 3, 4, 5);
        DUE.is("copy(0, 0, 1, 0, 4)", x.copy(0, 0, 1, 0, 4), 1);
        isRow(x, 0, 2, 3, 4, 5, 5);
        Due.ints(x, 1, 9, 9, 9);
        DUE.is("copy(0, 1, 3, 1, 2)", x.copy(0, 1, 3, 1, 2), 1);
        isRow(x, 1, 9, 5, 5);
        DUE.is("copy(0, 1, 5, 3, 0)", x.copy(0, 1, 5, 3, 0), 1);
        isRow(x, 1, 9, 5, 5);
    }

    private static void isRow(WindowsLookedOut x, int s, int... want) {
        for (int i = 0; i < want.length; i++) {
            DUE.is("element(" + s + ", " + i + ")", x.element(s, i), want[i]);
        }
    }

    private static void copyRefused() {
        WindowsLookedOut x = Due.townOf("house 24;pane 0 3 24 0");
        Due.ints(x, 0, 1, 2, 3);
        Due.ints(x, 1, 7, 8);
        x.row(2, 0, 3);
        x.show(3, 0);
        DUE.is("copy(8, 3, 0, 0, -1)", x.copy(8, 3, 0, 0, -1), -1);
        DUE.is("copy(0, -1, 0, 0, 1)", x.copy(0, -1, 0, 0, 1), -1);
        DUE.is("copy(3, 4, 0, 0, -1): a pane, and nothing", x.copy(3, 4, 0, 0, -1), -2);
        DUE.is("copy(4, 3, 0, 0, -1): nothing, and a pane", x.copy(4, 3, 0, 0, -1), -2);
        DUE.is("copy(0, 2, 0, 0, -1): two sorts", x.copy(0, 2, 0, 0, -1), -2);
        DUE.is("copy(0, 4, 0, 0, -1)", x.copy(0, 4, 0, 0, -1), -3);
        DUE.is("copy(4, 0, 0, 0, -1)", x.copy(4, 0, 0, 0, -1), -3);
        DUE.is("copy(0, 1, -1, 0, -1)", x.copy(0, 1, -1, 0, -1), -4);
        DUE.is("copy(0, 1, -1, 0, 1)", x.copy(0, 1, -1, 0, 1), -5);
        DUE.is("copy(0, 1, 0, -1, 1)", x.copy(0, 1, 0, -1, 1), -5);
        DUE.is("copy(0, 1, 0, 0, 3)", x.copy(0, 1, 0, 0, 3), -5);
        DUE.is("copy(1, 0, 1, 0, 2)", x.copy(1, 0, 1, 0, 2), -5);
        DUE.is("copy(0, 1, 4, 0, 0)", x.copy(0, 1, 4, 0, 0), -5);
        DUE.is("copy(0, 1, MAX, 0, MAX)", x.copy(0, 1, Integer.MAX_VALUE, 0, Integer.MAX_VALUE), -5);
        DUE.refused(x, 2, 3, 2, 1, 6, 0, 0);
        isRow(x, 0, 1, 2, 3);
        isRow(x, 1, 7, 8);
    }

    private static void element() {
        WindowsLookedOut x = Due.townOf("house 24;pane 0 3 24 0");
        Due.ints(x, 0, 5);
        x.show(1, 0);
        DUE.is("element(0, 0)", x.element(0, 0), 5);
        int[][] none = {{0, 1}, {0, -1}, {1, 0}, {2, 0}, {8, 0}, {-1, 0}, {0, Integer.MAX_VALUE}};
        for (int[] one : none) {
            DUE.is("element(" + one[0] + ", " + one[1] + ")", x.element(one[0], one[1]), 0);
        }
        DUE.refused(x, 0, 0, 0, 0, 0, 0, 0);
    }

    private static void show() {
        WindowsLookedOut x = Due.townOf("house 24;pane 0 3 24 0;pane 1 0 24 1");
        Due.ints(x, 0, 5);
        DUE.is("show(0, 2)", x.show(0, 2), -1);
        DUE.is("show(0, -2)", x.show(0, -2), -1);
        DUE.is("show(8, 0)", x.show(8, 0), -1);
        DUE.is("show(-1, -1)", x.show(-1, -1), -1);
        DUE.is("holds(0) still", x.holds(0), 102);
        DUE.is("show(0, 1)", x.show(0, 1), 1);
        DUE.is("holds(0)", x.holds(0), 1);
        DUE.is("element(0, 0) of a pane", x.element(0, 0), 0);
        DUE.is("show(0, 0)", x.show(0, 0), 1);
        DUE.is("holds(0)", x.holds(0), 0);
        DUE.is("show(0, NONE)", x.show(0, WindowsLookedOut.NONE), 0);
        DUE.is("holds(0)", x.holds(0), -1);
        DUE.is("holds(8)", x.holds(8), -1);
        DUE.is("holds(-1)", x.holds(-1), -1);
        DUE.refused(x, 4, 0, 0, 0, 0, 0, 0);
        for (int sort = 0; sort < 4; sort++) {
            x.row(0, sort, 0);
            DUE.is("holds(0), sort " + sort, x.holds(0), 100 + sort);
        }
    }

    /** Of each kind a pane at the town's middle: what it says, taken for each kind. */
    private static void says() {
        WindowsLookedOut x = Due.townOf("house 24;pane 0 3 24 1;pane 1 4 24 1;pane 2 5 24 1;pane 3 6 24 1;"
            + "pane 4 7 24 1;pane 5 8 24 2;pane 6 9 24 1");
        int[][] due = {
            {24, -2, -2, -2, -2, -2, -2},
            {24, 1, -2, -2, -2, -2, -2},
            {24, -2, 5, -2, -2, -2, -2},
            {24, 1, -2, 1, -2, -2, -2},
            {24, -2, -2, -2, 7, -2, -2},
            {24, -2, -2, -2, 7, 7, -2},
            {24, -2, 9, -2, -2, -2, 9},
        };
        for (int pane = 0; pane < 7; pane++) {
            x.show(0, pane);
            for (int kind = 0; kind < 7; kind++) {
                DUE.is("pane " + pane + ": says(0, " + kind + ")", x.says(0, kind), due[pane][kind]);
            }
        }
    }

    private static void saysRefused() {
        WindowsLookedOut x = Due.townOf("house 24;pane 0 3 24 1");
        x.row(0, 0, 1);
        x.show(1, 0);
        DUE.is("says(8, 0)", x.says(8, 0), -1);
        DUE.is("says(-1, 0)", x.says(-1, 0), -1);
        DUE.is("says(1, 7)", x.says(1, 7), -1);
        DUE.is("says(1, -1)", x.says(1, -1), -1);
        DUE.is("says(0, 7)", x.says(0, 7), -1);
        DUE.is("says(0, 0)", x.says(0, 0), -2);
        DUE.is("says(1, 3)", x.says(1, 3), -2);
        DUE.is("says(2, 0)", x.says(2, 0), -3);
        DUE.refused(x, 5, 2, 1, 0, 0, 0, 0);
    }
}
