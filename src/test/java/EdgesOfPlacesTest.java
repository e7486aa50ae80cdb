/** The edges of promises 9 to 15, case by case, in the ordinary town of Edges. */
public final class EdgesOfPlacesTest {
    private static final int MIN = Integer.MIN_VALUE;
    private static final int MAX = Integer.MAX_VALUE;

    public static void main(String[] args) {
        house();
        pane();
        walker();
        put();
        reach();
        paneOf();
        walkerOf();
        Edges.end("EdgesOfPlacesTest");
    }

    private static void house() {
        Edges e = new Edges("promise 9, house");
        for (int square : new int[] {-1, 49, MIN, MAX}) {
            e.refused(square + " is no SQUARE", x -> x.house(square, true), -6);
            e.refused(square + " is no SQUARE (not)", x -> x.house(square, false), -6);
        }
        e.does("0 is the first SQUARE: it had none", x -> x.house(0, true), 0);
        e.does("48 is the last SQUARE: it had one", x -> x.house(48, true), 1);
        e.does("48 (not): it had one", x -> x.house(48, false), 1);
        e.does("0 (not): it had none", x -> x.house(0, false), 0);
        e.asked("0: it has one", x -> x.house(0, true), x -> x.seen(0, 1), 1);
        e.asked("48 (not): it has none", x -> x.house(48, false), x -> x.seen(48, 1), 0);
        e.does("0 (not): it had one", x -> x.house(0, true), x -> x.house(0, false), 1);
        e.asked("0 (not): it has none", x -> {
            x.house(0, true);
            x.house(0, false);
        }, x -> x.seen(0, 1), 0);
        e.asked("a second time: one as before", x -> x.house(48, true), x -> x.status(2), 3);
        e.refused("somebody is there", x -> x.house(24, true), -6);
        e.refused("somebody is there (not)", x -> x.house(24, false), -6);
        e.refused("the last WALKER is there", x -> x.house(5, true), -6);
        e.refused("the last WALKER is there (not)", x -> x.house(5, false), -6);
        e.refused("he has come there", x -> x.put(0, 25, 0), x -> x.house(25, true), -6);
        e.does("he has gone from there", x -> x.put(0, 25, 0), x -> x.house(24, true), 0);
        e.refused("a PANE is at it (not)", x -> x.house(21, false), -6);
        e.refused("the last PANE is at it (not)", x -> x.house(10, false), -6);
        e.does("a PANE is at it", x -> x.house(21, true), 1);
        WindowsLookedOut full = new WindowsLookedOut();
        for (int square = 0; square < 49; square++) {
            e.is("a HOUSE at " + square, full.house(square, true), 0);
            e.is("so many HOUSES", full.status(2), square + 1);
        }
        e.is("HOUSES everywhere, again at the last", full.house(48, true), 1);
        e.is("HOUSES everywhere", full.status(2), 49);
    }

    private static void panes(WindowsLookedOut x, int many) {
        while (x.status(0) < many) {
            x.pane(0, 0, 48, 0);
        }
    }

    private static void pane() {
        Edges e = new Edges("promise 10, pane");
        for (int kind : new int[] {-1, 7, MIN, MAX}) {
            e.refused("KIND " + kind + " is none", x -> x.pane(kind, 0, 21, 0), -1);
        }
        for (int a : new int[] {-1, 10, MIN, MAX}) {
            e.refused("a " + a + " may not be", x -> x.pane(0, a, 21, 0), -6);
        }
        for (int at : new int[] {-1, 49, MIN, MAX}) {
            e.refused(at + " is no SQUARE", x -> x.pane(0, 0, at, 0), -6);
        }
        for (int way : new int[] {-1, 4, MIN, MAX}) {
            e.refused(way + " is no WAY", x -> x.pane(0, 0, 21, way), -6);
        }
        e.refused("at 0 is no HOUSE", x -> x.pane(0, 0, 0, 0), -6);
        e.refused("at 47 is no HOUSE", x -> x.pane(0, 0, 47, 0), -6);
        e.refused("at 24 is a WALKER", x -> x.pane(0, 0, 24, 0), -6);
        e.does("KIND 0, a 0, at 0, WAY 0: the least", x -> x.house(0, true), x -> x.pane(0, 0, 0, 0), 2);
        e.does("KIND 6, a 9, at 48, WAY 3: the most", x -> x.pane(6, 9, 48, 3), 2);
        int[] most = {6, 9, 48, 3, 0, 0};
        for (int what = 0; what < 6; what++) {
            int one = what;
            e.asked("the most, what " + what, x -> x.pane(6, 9, 48, 3), x -> x.paneOf(2, one), most[what]);
        }
        e.does("the first number is 0", Edges.town("house 3"), x -> x.pane(0, 0, 3, 0), 0);
        e.does("several at one HOUSE, on one WAY", x -> x.pane(0, 2, 21, 2), 2);
        e.does("the ninth has number 8", x -> panes(x, 8), x -> x.pane(0, 0, 21, 0), 8);
        e.refused("there is no room for a tenth", x -> panes(x, 9), x -> x.pane(0, 0, 21, 0), -7);
        e.refused("-1 ahead of -6", x -> x.pane(7, 10, 0, 4), -1);
        e.refused("-1 ahead of -7", x -> panes(x, 9), x -> x.pane(7, 0, 21, 0), -1);
        e.refused("-6 for a ahead of -7", x -> panes(x, 9), x -> x.pane(0, 10, 21, 0), -6);
        e.refused("-6 for no HOUSE ahead of -7", x -> panes(x, 9), x -> x.pane(0, 0, 0, 0), -6);
        e.refused("-6 for the WAY ahead of -7", x -> panes(x, 9), x -> x.pane(0, 0, 21, 4), -6);
    }

    private static void walkers(WindowsLookedOut x, int many) {
        while (x.status(1) < many) {
            x.walker(47, 3);
        }
    }

    private static void walker() {
        Edges e = new Edges("promise 11, walker");
        for (int at : new int[] {-1, 49, MIN, MAX}) {
            e.refused(at + " is no SQUARE", x -> x.walker(at, 0), -6);
        }
        for (int way : new int[] {-1, 4, MIN, MAX}) {
            e.refused(way + " is no WAY", x -> x.walker(0, way), -6);
        }
        e.refused("at 21 is a HOUSE", x -> x.walker(21, 0), -6);
        e.refused("at 48 is a HOUSE without PANE", x -> x.walker(48, 0), -6);
        e.does("at 0, WAY 0: the least", x -> x.walker(0, 0), 2);
        e.does("at 48, WAY 3: the most", x -> x.house(48, false), x -> x.walker(48, 3), 2);
        e.asked("where he is AT", x -> x.walker(47, 3), x -> x.walkerOf(2, 0), 47);
        e.asked("the WAY he FACES", x -> x.walker(47, 3), x -> x.walkerOf(2, 1), 3);
        e.asked("TRIED is 0 at first", x -> x.walker(47, 3), x -> x.walkerOf(2, 2), 0);
        e.does("the first number is 0", Edges.BARE, x -> x.walker(0, 0), 0);
        e.does("several at one SQUARE", x -> x.walker(24, 1), 2);
        e.does("the fifth has number 4", x -> walkers(x, 4), x -> x.walker(0, 0), 4);
        e.refused("there is no room for a sixth", x -> walkers(x, 5), x -> x.walker(0, 0), -7);
        e.refused("-6 for a HOUSE ahead of -7", x -> walkers(x, 5), x -> x.walker(21, 0), -6);
        e.refused("-6 for the SQUARE ahead of -7", x -> walkers(x, 5), x -> x.walker(49, 0), -6);
        e.refused("-6 for the WAY ahead of -7", x -> walkers(x, 5), x -> x.walker(0, 4), -6);
    }

    private static void put() {
        Edges e = new Edges("promise 12, put");
        for (int walker : new int[] {-1, 2, MIN, MAX}) {
            e.refused("there is no WALKER " + walker, x -> x.put(walker, 0, 0), -1);
        }
        for (int square : new int[] {-1, 49, MIN, MAX}) {
            e.refused(square + " is no SQUARE", x -> x.put(0, square, 0), -6);
        }
        for (int way : new int[] {-1, 4, MIN, MAX}) {
            e.refused(way + " is no WAY", x -> x.put(0, 0, way), -6);
        }
        e.refused("at 21 is a HOUSE", x -> x.put(0, 21, 0), -6);
        e.refused("there are no WALKERS", Edges.BARE, x -> x.put(0, 0, 0), -1);
        e.refused("-1 ahead of -6 for the SQUARE", x -> x.put(2, 49, 0), -1);
        e.refused("-1 ahead of -6 for the WAY", x -> x.put(2, 0, 4), -1);
        e.refused("-1 ahead of -6 for a HOUSE", x -> x.put(2, 21, 0), -1);
        e.does("the first WALKER, to 0, WAY 0: where he was", x -> x.put(0, 0, 0), 24);
        e.does("the last WALKER, to 47, WAY 3: where he was", x -> x.put(1, 47, 3), 5);
        e.does("to the last SQUARE", x -> x.house(48, false), x -> x.put(1, 48, 3), 5);
        e.does("to where he is", x -> x.put(0, 24, 3), 24);
        e.does("to where another is", x -> x.put(0, 5, 3), 24);
        e.asked("to where he is: he FACES the WAY", x -> x.put(0, 24, 3), x -> x.walkerOf(0, 1), 3);
        e.asked("to where another is: that one stays", x -> x.put(0, 5, 3), x -> x.walkerOf(1, 0), 5);
        e.asked("to where another is: that one FACES as before", x -> x.put(0, 5, 3), x -> x.walkerOf(1, 1), 0);
        e.asked("he is there", x -> x.put(0, 47, 3), x -> x.walkerOf(0, 0), 47);
        e.asked("he looks in where he is put, but it is not TRIED", x -> x.put(0, 22, 1), x -> x.walkerOf(0, 2), 0);
        e.asked("he looks in where he is put, but the town has no SHAME", x -> x.put(0, 22, 1), x -> x.status(5), 0);
    }

    private static void reach() {
        Edges e = new Edges("promise 13, reach");
        for (int v : new int[] {-1, 0, 7, MIN, MAX}) {
            e.refused(v + " may not be", x -> x.reach(v), -6);
        }
        e.does("1 is the least: it was 4", x -> x.reach(1), 4);
        e.does("6 is the most: it was 4", x -> x.reach(6), 4);
        e.does("it was 1", x -> x.reach(1), x -> x.reach(6), 1);
        e.does("it was 6", x -> x.reach(6), x -> x.reach(6), 6);
        e.asked("it becomes 6", x -> x.reach(6), x -> x.status(3), 6);
        e.asked("it becomes 1", x -> x.reach(1), x -> x.status(3), 1);
    }

    private static void paneOf() {
        Edges e = new Edges("promise 14, paneOf");
        for (int pane : new int[] {-1, 2, MIN, MAX}) {
            e.refused("there is no PANE " + pane, x -> x.paneOf(pane, 0), -5);
        }
        for (int what : new int[] {-1, 6, MIN, MAX}) {
            e.refused("there is no what " + what, x -> x.paneOf(0, what), -5);
        }
        e.refused("neither PANE nor what: once", x -> x.paneOf(2, 6), -5);
        e.refused("there are no PANES", Edges.BARE, x -> x.paneOf(0, 0), -5);
        int[] first = {0, 2, 21, 2, 4, 1};
        int[] last = {4, 3, 10, 3, 8, 1};
        for (int what = 0; what < 6; what++) {
            int one = what;
            e.asked("the first PANE, what " + what, x -> x.paneOf(0, one), first[what]);
            e.asked("the last PANE, what " + what, x -> x.paneOf(1, one), last[what]);
        }
        e.asked("a HOUSE right before it: no SQUARES", x -> x.house(22, true), x -> x.paneOf(0, 4), 0);
        e.asked("a HOUSE right before it: no WALKERS", x -> x.house(22, true), x -> x.paneOf(0, 5), 0);
        e.asked("REACH 1: the SQUARE next to it", x -> x.reach(1), x -> x.paneOf(0, 4), 1);
        e.asked("REACH 6: up to the edge", x -> x.reach(6), x -> x.paneOf(0, 4), 6);
        e.asked("at the edge, WAY out of the town: none", x -> x.pane(5, 9, 48, 2), x -> x.paneOf(2, 4), 0);
        e.asked("all five WALKERS", x -> {
            x.put(1, 25, 0);
            x.walker(22, 0);
            x.walker(22, 1);
            x.walker(23, 2);
        }, x -> x.paneOf(0, 5), 31);
        e.asked("it SEES 0, but there are no WALKERS", Edges.town("house 3;pane 0 0 3 1"), x -> x.paneOf(0, 5), 0);
        e.asked("it SEES 0, but the one WALKER is not there", Edges.town("house 3;pane 0 0 3 1;walker 9 0"),
            x -> x.paneOf(0, 5), 0);
        e.asked("it SEES 0, and the one WALKER is there", Edges.town("house 3;pane 0 0 3 1;walker 0 0"),
            x -> x.paneOf(0, 5), 1);
        e.asked("the fifth WALKER alone", x -> {
            walkers(x, 4);
            x.walker(25, 0);
            x.put(0, 26, 0);
        }, x -> x.paneOf(0, 5), 16);
    }

    private static void walkerOf() {
        Edges e = new Edges("promise 15, walkerOf");
        for (int walker : new int[] {-1, 2, MIN, MAX}) {
            e.refused("there is no WALKER " + walker, x -> x.walkerOf(walker, 0), -5);
        }
        for (int what : new int[] {-1, 6, MIN, MAX}) {
            e.refused("there is no what " + what, x -> x.walkerOf(0, what), -5);
        }
        e.refused("neither WALKER nor what: once", x -> x.walkerOf(2, 6), -5);
        e.refused("there are no WALKERS", Edges.BARE, x -> x.walkerOf(0, 0), -5);
        int[] first = {24, 1, 0, 1, 1, 3};
        int[] last = {5, 0, 0, 0, 0, 0};
        for (int what = 0; what < 6; what++) {
            int one = what;
            e.asked("the first WALKER, what " + what, x -> x.walkerOf(0, one), first[what]);
            e.asked("the last WALKER, what " + what, x -> x.walkerOf(1, one), last[what]);
        }
        Edges.Doing nine = x -> {
            for (int pane = 2; pane < 9; pane++) {
                x.pane(pane % 2 == 0 ? 0 : 1, 0, 21, 2);
            }
        };
        e.asked("nine PANES: SHAME", nine, x -> x.walkerOf(0, 3), 5);
        e.asked("nine PANES: he LOOKS IN at the ninth", nine, x -> x.walkerOf(0, 4), 1 + 4 + 16 + 64 + 256);
        e.asked("nine PANES: all SEE him", nine, x -> x.walkerOf(0, 5), 511);
    }
}
