/** Promises 22 and 29: how to go so that one looks in nowhere or least, and where two meet. */
public final class WaysTest {
    private static final Due DUE = new Due();

    public static void main(String[] args) {
        plainWays();
        longerForLessShame();
        shameThatMustBe();
        fewerStepsOfEqualShame();
        wayRefused();
        meet();
        meetRefused();
        DUE.end("WaysTest");
    }

    private static void way(WindowsLookedOut x, int square, int shame, int steps, int first) {
        DUE.is("way(0, " + square + ", 0)", x.way(0, square, 0), shame);
        DUE.is("way(0, " + square + ", 1)", x.way(0, square, 1), steps);
        DUE.is("way(0, " + square + ", 2)", x.way(0, square, 2), first);
    }

    private static void plainWays() {
        WindowsLookedOut x = Due.townOf("walker 24 3");
        way(x, 24, 0, 0, -1);
        way(x, 17, 0, 1, 0);
        way(x, 23, 0, 1, 1);
        way(x, 25, 0, 1, 2);
        way(x, 31, 0, 1, 3);
        way(x, 0, 0, 6, 0);
        way(x, 48, 0, 6, 2);
        way(x, 42, 0, 6, 1);
        Due.letters(x, 0, "house 1;house 8;house 7");
        x.town(0);
        way(x, 0, -1, -1, -1);
        DUE.is("nothing is changed: walkerOf(0, 0)", x.walkerOf(0, 0), 24);
        DUE.is("NONE is no refusal", x.status(16), 0);
    }

    /** To walk east along the row of 21 is to look in at 27 four squares off; a row beside it nobody sees. */
    private static void longerForLessShame() {
        WindowsLookedOut x = Due.townOf("house 27;pane 0 0 27 1;walker 21 2");
        way(x, 22, 0, 1, 2);
        way(x, 23, 0, 4, 0);
        way(x, 26, 0, 7, 0);
        x.reach(1);
        way(x, 25, 0, 4, 2);
        way(x, 26, 0, 7, 0);
        x.house(19, true);
        way(x, 26, 0, 7, 2);
        x.house(33, true);
        way(x, 26, 1, 5, 2);
    }

    /** A lane of one square's breadth, with three panes at its end. */
    private static void shameThatMustBe() {
        WindowsLookedOut x = Due.townOf("house 7;house 8;house 9;house 10;house 4;pane 0 0 4 1;pane 2 1 4 1;"
            + "pane 3 0 4 1;pane 1 0 4 1;walker 0 0;house 11");
        way(x, 1, 1, 1, 2);
        way(x, 2, 3, 2, 2);
        way(x, 3, 6, 3, 2);
        x.put(0, 3, 0);
        way(x, 0, 0, 3, 1);
        way(x, 5, -1, -1, -1);
    }

    /** To 26 one comes with one shame from the west and with one from the north: the shorter way is taken. */
    private static void fewerStepsOfEqualShame() {
        WindowsLookedOut x = Due.townOf("house 27;house 33;pane 0 0 27 1;pane 6 0 33 0;reach 1;walker 21 2");
        way(x, 26, 1, 5, 2);
        x.pane(5, 0, 27, 1);
        way(x, 26, 1, 7, 0);
        x.put(0, 5, 0);
        way(x, 26, 1, 3, 3);
        WindowsLookedOut lane = Due.townOf("house 9;house 11;house 16;house 18;house 24;pane 0 0 24 0;walker 3 0");
        way(lane, 10, 1, 1, 3);
        way(lane, 17, 2, 2, 3);
        lane.reach(1);
        way(lane, 17, 1, 2, 3);
        way(lane, 31, 0, 8, 1);
    }

    private static void wayRefused() {
        WindowsLookedOut x = Due.townOf("house 27;walker 21 2");
        DUE.is("way(1, 27, 3)", x.way(1, 27, 3), -11);
        DUE.is("way(-1, 0, 0)", x.way(-1, 0, 0), -11);
        DUE.is("way(0, 27, 3)", x.way(0, 27, 3), -15);
        DUE.is("way(0, 0, -1)", x.way(0, 0, -1), -15);
        DUE.is("way(0, 27, 0)", x.way(0, 27, 0), -16);
        DUE.is("way(0, 49, 0)", x.way(0, 49, 0), -16);
        DUE.is("way(0, -1, 0)", x.way(0, -1, 0), -16);
        DUE.refused(x, 2, 0, 0, 0, 2, 3, 0);
    }

    private static void meet(WindowsLookedOut x, int steps, int square) {
        DUE.is("meet(0, 1, 0)", x.meet(0, 1, 0), steps);
        DUE.is("meet(0, 1, 1)", x.meet(0, 1, 1), square);
        DUE.is("meet(1, 0, 0)", x.meet(1, 0, 0), steps);
        DUE.is("meet(1, 0, 1)", x.meet(1, 0, 1), square);
    }

    private static void meet() {
        WindowsLookedOut x = Due.townOf("walker 24 0;walker 24 1");
        meet(x, 0, 24);
        x.put(1, 40, 0);
        meet(x, 4, 24);
        x.put(0, 38, 0);
        x.put(1, 24, 0);
        meet(x, 2, 24);
        x.house(31, true);
        meet(x, 4, 23);
        Due.letters(x, 0, "house 17;house 23;house 25");
        x.town(0);
        meet(x, -1, -1);
        meet(Due.townOf("walker 0 0;walker 1 0"), 1, 0);
        meet(Due.townOf("house 27;pane 0 0 27 1;pane 0 0 27 1;walker 24 0;walker 26 1"), 2, 24);
        DUE.is("status(16)", x.status(16), 0);
    }

    private static void meetRefused() {
        WindowsLookedOut x = Due.townOf("walker 24 0;walker 24 1");
        DUE.is("meet(2, 2, 9)", x.meet(2, 2, 9), -11);
        DUE.is("meet(0, -1, 0)", x.meet(0, -1, 0), -11);
        DUE.is("meet(-1, 0, 0)", x.meet(-1, 0, 0), -11);
        DUE.is("meet(1, 1, 2)", x.meet(1, 1, 2), -15);
        DUE.is("meet(0, 1, -1)", x.meet(0, 1, -1), -15);
        DUE.is("meet(1, 1, 0)", x.meet(1, 1, 0), -16);
        DUE.refused(x, 3, 0, 0, 0, 2, 1, 0);
    }
}
