/** Promises 18 to 21: what panes see, who looks in, and which way to face. */
public final class SightTest {
    private static final Due DUE = new Due();

    public static void main(String[] args) {
        lines();
        bays();
        blindKinds();
        seen();
        looksByKinds();
        looksByReach();
        looksRefused();
        all();
        turn();
        turnRefused();
        DUE.end("SightTest");
    }

    /** That pane 0 sees just these squares. */
    private static void sees(String town, int... squares) {
        WindowsLookedOut x = Due.townOf(town);
        boolean[] due = new boolean[49];
        for (int square : squares) {
            due[square] = true;
        }
        for (int square = 0; square < 49; square++) {
            DUE.is("<" + town + "> seen(" + square + ", 0)", x.seen(square, 0) & 1, due[square] ? 1 : 0);
        }
        DUE.is("<" + town + "> paneOf(0, 4)", x.paneOf(0, 4), squares.length);
    }

    private static void lines() {
        sees("house 24;pane 0 9 24 0", 17, 10, 3);
        sees("house 24;pane 1 9 24 1", 23, 22, 21);
        sees("house 24;pane 3 9 24 2", 25, 26, 27);
        sees("house 24;pane 0 9 24 3", 31, 38, 45);
        sees("house 0;pane 0 0 0 2", 1, 2, 3, 4);
        sees("house 0;pane 0 0 0 2;reach 6", 1, 2, 3, 4, 5, 6);
        sees("house 0;pane 0 9 0 2;reach 1", 1);
        sees("house 0;house 3;pane 0 0 0 2", 1, 2);
        sees("house 0;house 1;pane 0 0 0 2");
        sees("house 0;pane 0 0 0 0");
        sees("house 6;pane 0 0 6 2");
        sees("house 13;pane 0 0 13 2");
        sees("house 7;pane 0 0 7 1");
        sees("house 48;pane 0 0 48 3");
    }

    private static void bays() {
        sees("house 21;pane 4 9 21 2", 22, 23, 24, 25, 15, 16, 29, 30);
        sees("house 45;pane 4 9 45 0", 38, 31, 24, 17, 37, 39, 30, 32);
        sees("house 0;pane 4 0 0 3", 7, 14, 21, 28, 8, 15);
        sees("house 6;pane 4 0 6 1", 5, 4, 3, 2, 12, 11);
        sees("house 21;pane 4 0 21 2;reach 1", 22, 15, 29);
        sees("house 21;house 23;pane 4 0 21 2", 22, 15, 29);
        sees("house 21;house 22;pane 4 0 21 2");
        sees("house 21;house 15;house 30;pane 4 0 21 2", 22, 23, 24, 25, 16, 29);
        sees("house 20;pane 4 0 20 2");
        sees("house 21;pane 5 0 21 2;reach 1", 22, 15, 29);
        sees("house 21;pane 5 1 21 2;reach 1", 22, 15, 29, 23, 16, 30);
        sees("house 21;pane 5 3 21 2;reach 1", 22, 15, 29, 23, 16, 30, 24, 25);
        sees("house 21;pane 5 9 21 2", 22, 15, 29, 23, 16, 30, 24, 25, 26, 27);
    }

    private static void blindKinds() {
        sees("house 24;pane 2 9 24 0");
        sees("house 24;pane 6 9 24 0");
    }

    private static void seen() {
        WindowsLookedOut x = Due.townOf("house 21;house 27;pane 0 0 21 2;pane 1 0 27 1;pane 4 0 27 1");
        DUE.is("seen(22, 0)", x.seen(22, 0), 1);
        DUE.is("seen(23, 0)", x.seen(23, 0), 7);
        DUE.is("seen(26, 0)", x.seen(26, 0), 6);
        DUE.is("seen(33, 0)", x.seen(33, 0), 4);
        DUE.is("seen(21, 0)", x.seen(21, 0), 0);
        DUE.is("seen(27, 1)", x.seen(27, 1), 1);
        DUE.is("seen(26, 1)", x.seen(26, 1), 0);
        DUE.is("seen(26, 2)", x.seen(26, 2), -15);
        DUE.is("seen(49, -1)", x.seen(49, -1), -15);
        DUE.is("seen(49, 0)", x.seen(49, 0), -16);
        DUE.is("seen(-1, 1)", x.seen(-1, 1), -16);
        DUE.refused(x, 0, 0, 0, 0, 2, 2, 0);
    }

    /** Of each kind a pane at 21 that looks east; somebody comes from the east, square by square. */
    private static void looksByKinds() {
        int[][] in = {
            {1, 1, 1, 1, 0, 0}, {0, 0, 0, 0, 0, 0}, {1, 1, 1, 0, 0, 0}, {1, 0, 0, 0, 0, 0},
            {1, 1, 1, 1, 0, 0}, {1, 1, 1, 1, 0, 0}, {1, 1, 1, 1, 0, 0},
        };
        for (int kind = 0; kind < 7; kind++) {
            WindowsLookedOut x = Due.townOf("house 21;pane " + kind + " 2 21 2");
            for (int off = 1; off <= 6; off++) {
                DUE.is("kind " + kind + ": looks(" + (21 + off) + ", 1)", x.looks(21 + off, 1), in[kind][off - 1]);
                DUE.is("kind " + kind + ": looks(" + (21 + off) + ", 2)", x.looks(21 + off, 2), 0);
            }
            DUE.is("kind " + kind + ": looks(15, 1)", x.looks(15, 1), 0);
        }
    }

    private static void looksByReach() {
        WindowsLookedOut x = Due.townOf("house 21;pane 0 0 21 2;pane 2 9 21 2;pane 2 0 21 2;pane 0 0 21 1;"
            + "pane 5 9 21 2");
        int[] due = {23, 19, 19, 19, 0, 0};
        for (int off = 1; off <= 6; off++) {
            DUE.is("looks(" + (21 + off) + ", 1)", x.looks(21 + off, 1), due[off - 1]);
        }
        x.reach(6);
        DUE.is("reach 6: looks(27, 1)", x.looks(27, 1), 19);
        x.reach(1);
        DUE.is("reach 1: looks(23, 1)", x.looks(23, 1), 0);
        DUE.is("reach 1: looks(22, 1)", x.looks(22, 1), 23);
        x.reach(4);
        x.house(23, true);
        DUE.is("a house before it: looks(24, 1)", x.looks(24, 1), 0);
        WindowsLookedOut y = Due.townOf("house 24;pane 0 0 24 0;pane 0 0 24 1;pane 0 0 24 2;pane 0 0 24 3");
        DUE.is("from the north: looks(17, 3)", y.looks(17, 3), 1);
        DUE.is("from the west: looks(23, 2)", y.looks(23, 2), 2);
        DUE.is("from the east: looks(25, 1)", y.looks(25, 1), 4);
        DUE.is("from the south: looks(31, 0)", y.looks(31, 0), 8);
        DUE.is("turned away: looks(17, 0)", y.looks(17, 0), 0);
    }

    private static void looksRefused() {
        WindowsLookedOut x = Due.townOf("house 21");
        DUE.is("looks(21, 0)", x.looks(21, 0), -16);
        DUE.is("looks(49, 0)", x.looks(49, 0), -16);
        DUE.is("looks(-1, 0)", x.looks(-1, 0), -16);
        DUE.is("looks(0, 4)", x.looks(0, 4), -16);
        DUE.is("looks(0, -1)", x.looks(0, -1), -16);
        DUE.refused(x, 0, 0, 0, 0, 0, 5, 0);
    }

    private static void all() {
        WindowsLookedOut x = Due.townOf("house 21;pane 0 0 21 2;pane 4 0 21 2;pane 0 0 21 0");
        DUE.is("all()", x.all(), 11);
        x.reach(1);
        DUE.is("all()", x.all(), 4);
    }

    private static void turn() {
        WindowsLookedOut x = Due.townOf("house 17;house 23;house 25;house 31;walker 24 3");
        DUE.is("turn(0, 0)", x.turn(0, 0), 0);
        DUE.is("turn(0, 1)", x.turn(0, 1), 0);
        x.pane(0, 0, 17, 3);
        x.pane(0, 0, 17, 3);
        DUE.is("shame to the north: turn(0, 0)", x.turn(0, 0), 1);
        x.pane(0, 0, 23, 2);
        DUE.is("to the west, too: turn(0, 0)", x.turn(0, 0), 2);
        x.pane(0, 0, 25, 1);
        x.pane(0, 0, 25, 1);
        x.pane(0, 0, 31, 0);
        DUE.is("on all ways: turn(0, 0)", x.turn(0, 0), 1);
        DUE.is("on all ways: turn(0, 1)", x.turn(0, 1), 1);
        x.pane(0, 0, 23, 2);
        DUE.is("least to the south: turn(0, 0)", x.turn(0, 0), 3);
        x.pane(0, 0, 31, 0);
        DUE.is("two on each: turn(0, 0)", x.turn(0, 0), 0);
        DUE.is("two on each: turn(0, 1)", x.turn(0, 1), 2);
        DUE.is("nothing is changed: walkerOf(0, 1)", x.walkerOf(0, 1), 3);
    }

    private static void turnRefused() {
        WindowsLookedOut x = Due.townOf("walker 24 3");
        DUE.is("turn(1, 9)", x.turn(1, 9), -1);
        DUE.is("turn(-1, 0)", x.turn(-1, 0), -1);
        DUE.is("turn(0, 2)", x.turn(0, 2), -5);
        DUE.is("turn(0, -1)", x.turn(0, -1), -5);
        DUE.refused(x, 2, 0, 0, 0, 2, 0, 0);
    }
}
