/** Promises 9 to 15: houses, panes, walkers, reach, and what may be asked of each. */
public final class PlacesTest {
    private static final Due DUE = new Due();

    public static void main(String[] args) {
        house();
        pane();
        walker();
        put();
        reach();
        paneOf();
        walkerOf();
        DUE.end("PlacesTest");
    }

    private static void house() {
        WindowsLookedOut x = new WindowsLookedOut();
        DUE.is("house(0, true)", x.house(0, true), 0);
        DUE.is("house(48, true)", x.house(48, true), 0);
        DUE.is("house(48, true) again", x.house(48, true), 1);
        DUE.is("status(2)", x.status(2), 2);
        DUE.is("house(48, false)", x.house(48, false), 1);
        DUE.is("house(48, false) again", x.house(48, false), 0);
        DUE.is("house(-1, true)", x.house(-1, true), -6);
        DUE.is("house(49, false)", x.house(49, false), -6);
        x.pane(0, 0, 0, 2);
        x.walker(8, 0);
        DUE.is("house(0, false): a pane is at it", x.house(0, false), -6);
        DUE.is("house(0, true): a pane is at it", x.house(0, true), 1);
        DUE.is("house(8, true): a walker is at it", x.house(8, true), -6);
        DUE.is("house(8, false): a walker is at it", x.house(8, false), -6);
        DUE.is("status(2)", x.status(2), 1);
        DUE.is("walkerOf(0, 0)", x.walkerOf(0, 0), 8);
        DUE.refused(x, 0, 0, 0, 0, 0, 5, 0);
        x.put(0, 9, 0);
        DUE.is("house(8, false): he has gone", x.house(8, false), 0);
        DUE.is("house(9, false): he is here now", x.house(9, false), -6);
        DUE.is("house(8, true): nobody is at it", x.house(8, true), 0);
    }

    private static void pane() {
        WindowsLookedOut x = new WindowsLookedOut();
        x.house(24, true);
        DUE.is("pane(7, 10, 0, 4)", x.pane(7, 10, 0, 4), -1);
        DUE.is("pane(-1, 0, 24, 0)", x.pane(-1, 0, 24, 0), -1);
        int[][] wrong = {{10, 24, 0}, {-1, 24, 0}, {0, 23, 0}, {0, 49, 0}, {0, -1, 0}, {0, 24, 4}, {0, 24, -1}};
        for (int[] one : wrong) {
            DUE.is("pane(0, " + one[0] + ", " + one[1] + ", " + one[2] + ")",
                x.pane(0, one[0], one[1], one[2]), -6);
        }
        for (int i = 0; i < 9; i++) {
            DUE.is("pane " + i, x.pane(i % 7, i + 1, 24, i % 4), i);
        }
        DUE.is("a tenth pane", x.pane(0, 0, 24, 0), -7);
        DUE.is("a tenth pane that may not be", x.pane(0, 10, 24, 0), -6);
        DUE.is("a tenth pane of no kind", x.pane(7, 0, 24, 0), -1);
        DUE.is("status(0)", x.status(0), 9);
        DUE.refused(x, 3, 0, 0, 0, 0, 8, 1);
    }

    private static void walker() {
        WindowsLookedOut x = new WindowsLookedOut();
        x.house(24, true);
        int[][] wrong = {{24, 0}, {49, 0}, {-1, 0}, {0, 4}, {0, -1}};
        for (int[] one : wrong) {
            DUE.is("walker(" + one[0] + ", " + one[1] + ")", x.walker(one[0], one[1]), -6);
        }
        for (int i = 0; i < 5; i++) {
            DUE.is("walker " + i + ", all at one square", x.walker(48, i % 4), i);
        }
        DUE.is("a sixth walker", x.walker(48, 0), -7);
        DUE.is("a sixth walker that may not be", x.walker(24, 0), -6);
        DUE.is("status(1)", x.status(1), 5);
        DUE.refused(x, 0, 0, 0, 0, 0, 6, 1);
    }

    private static void put() {
        WindowsLookedOut x = Due.townOf("house 24;walker 3 0;walker 4 1");
        DUE.is("put(2, 24, 9)", x.put(2, 24, 9), -1);
        DUE.is("put(-1, 0, 0)", x.put(-1, 0, 0), -1);
        int[][] wrong = {{24, 0}, {49, 0}, {-1, 0}, {0, 4}, {0, -1}};
        for (int[] one : wrong) {
            DUE.is("put(0, " + one[0] + ", " + one[1] + ")", x.put(0, one[0], one[1]), -6);
        }
        DUE.is("put(0, 4, 2)", x.put(0, 4, 2), 3);
        DUE.is("walkerOf(0, 0)", x.walkerOf(0, 0), 4);
        DUE.is("walkerOf(0, 1)", x.walkerOf(0, 1), 2);
        DUE.is("walkerOf(1, 0)", x.walkerOf(1, 0), 4);
        DUE.is("walkerOf(1, 1)", x.walkerOf(1, 1), 1);
        DUE.is("put(0, 4, 3)", x.put(0, 4, 3), 4);
        DUE.refused(x, 2, 0, 0, 0, 0, 5, 0);
    }

    private static void reach() {
        WindowsLookedOut x = new WindowsLookedOut();
        DUE.is("reach(6)", x.reach(6), 4);
        DUE.is("reach(1)", x.reach(1), 6);
        DUE.is("reach(0)", x.reach(0), -6);
        DUE.is("reach(7)", x.reach(7), -6);
        DUE.is("status(3)", x.status(3), 1);
        DUE.refused(x, 0, 0, 0, 0, 0, 2, 0);
    }

    private static void paneOf() {
        WindowsLookedOut x = Due.townOf("house 21;pane 4 7 21 2;walker 22 0;walker 35 0;walker 29 1;walker 24 1");
        int[] due = {4, 7, 21, 2, 8, 13};
        for (int what = 0; what < 6; what++) {
            DUE.is("paneOf(0, " + what + ")", x.paneOf(0, what), due[what]);
        }
        DUE.is("paneOf(0, 6)", x.paneOf(0, 6), -5);
        DUE.is("paneOf(0, -1)", x.paneOf(0, -1), -5);
        DUE.is("paneOf(1, 0)", x.paneOf(1, 0), -5);
        DUE.is("paneOf(-1, 0)", x.paneOf(-1, 0), -5);
        DUE.refused(x, 0, 0, 0, 0, 4, 0, 0);
    }

    private static void walkerOf() {
        WindowsLookedOut x = Due.townOf("house 21;pane 4 0 21 2;pane 0 0 21 2;pane 1 0 21 2;walker 23 1");
        x.days(1);
        x.put(0, 23, 1);
        int[] due = {23, 1, x.status(6), 2, 3, 7};
        for (int what = 0; what < 6; what++) {
            DUE.is("walkerOf(0, " + what + ")", x.walkerOf(0, what), due[what]);
        }
        DUE.is("walkerOf(0, 6)", x.walkerOf(0, 6), -5);
        DUE.is("walkerOf(0, -1)", x.walkerOf(0, -1), -5);
        DUE.is("walkerOf(1, 0)", x.walkerOf(1, 0), -5);
        DUE.is("walkerOf(-1, 9)", x.walkerOf(-1, 9), -5);
        DUE.refused(x, 0, 0, 0, 0, 4, 0, 0);
    }
}
