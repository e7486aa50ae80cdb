/** The edges of promises 23 to 28: what the panes tell together, and where to put one, or a house, case by case. */
public final class EdgesOfPanesTest {
    private static final int MIN = Integer.MIN_VALUE;
    private static final int MAX = Integer.MAX_VALUE;
    private static final int NONE = WindowsLookedOut.NONE;

    public static void main(String[] args) {
        told("promise 23, cover", WindowsLookedOut::cover);
        cover();
        coverOfNine();
        sole();
        whereRefused();
        where();
        told("promise 26, ask", WindowsLookedOut::ask);
        ask();
        fresh();
        freshByReach();
        housedRefused();
        housed();
        Edges.end("EdgesOfPanesTest");
    }

    interface Asking {
        int of(WindowsLookedOut x, int s);
    }

    /** What cover and ask refuse alike. */
    private static void told(String promise, Asking asking) {
        Edges e = new Edges(promise);
        for (int s : new int[] {-1, 8, MIN, MAX}) {
            e.refused("s " + s + " is no SHELF", x -> asking.of(x, s), -11);
        }
        e.refused("a PANE is no ROW", x -> asking.of(x, 3), -12);
        e.refused("NOTHING is there", x -> asking.of(x, 4), -13);
        for (int square : new int[] {-1, 49, MIN, MAX}) {
            e.refused("the first, " + square + ", is no SQUARE", x -> Due.ints(x, 1, square, 22, 17),
                x -> asking.of(x, 1), -16);
            e.refused("the last, " + square + ", is no SQUARE", x -> Due.ints(x, 1, 22, 17, square),
                x -> asking.of(x, 1), -16);
            e.refused("the one element, " + square + ", is no SQUARE", x -> Due.ints(x, 1, square),
                x -> asking.of(x, 1), -16);
        }
        e.refused("there are no PANES, but 49 is no SQUARE", rowOf(Edges.BARE, 49), x -> asking.of(x, 1), -16);
        e.refused("a byte 200 is no SQUARE", x -> {
            x.row(1, 0, 1);
            x.set(1, 0, 200);
        }, x -> asking.of(x, 1), -16);
        e.refused("a long's lowest 32 bits are no SQUARE", x -> {
            x.row(1, 3, 1);
            x.set(1, 0, (1L << 33) + 49);
        }, x -> asking.of(x, 1), -16);
        e.refused("the last of 160 is no SQUARE", rowOfAll(160).then(x -> x.set(1, 159, 49)),
            x -> asking.of(x, 1), -16);
    }

    private static Edges.Made rowOf(Edges.Made made, int... squares) {
        return made.then(x -> Due.ints(x, 1, squares));
    }

    /** A pane at 21 to the east, which sees 22 to 25, and n elements, all 22. */
    private static Edges.Made rowOfAll(int n) {
        return Edges.BARE.then(x -> {
            x.house(21, true);
            x.pane(0, 0, 21, 2);
            x.row(1, 0, n);
            for (int i = 0; i < n; i++) {
                x.set(1, i, 22);
            }
        });
    }

    /** In the ordinary town 22 and 25 are seen by pane 0 (25 by 1, too), 17 by pane 1, 24 by both. */
    private static void cover() {
        Edges e = new Edges("promise 23, cover");
        int[][] due = {
            {0}, {1, 22}, {2, 17}, {1, 24}, {1, 25}, {3, 22, 17}, {1, 24, 22}, {2, 24, 17}, {1, 22, 22, 22},
            {NONE, 0}, {NONE, 26}, {NONE, 22, 17, 26}, {NONE, 21}, {NONE, 48}, {NONE, 22, 48},
        };
        for (int[] one : due) {
            int[] squares = java.util.Arrays.copyOfRange(one, 1, one.length);
            e.asked("of " + java.util.Arrays.toString(squares), rowOf(Edges.ORDINARY, squares),
                x -> x.cover(1), one[0]);
        }
        e.asked("of none told, no PANES", rowOf(Edges.BARE), x -> x.cover(1), 0);
        e.asked("of one told, no PANES", rowOf(Edges.BARE, 22), x -> x.cover(1), NONE);
        e.asked("of 160 told", rowOfAll(160), x -> x.cover(1), 1);
        e.asked("of 160 told, the last not SEEN", rowOfAll(160).then(x -> x.set(1, 159, 26)), x -> x.cover(1), NONE);
        e.asked("of longs the lowest 32 bits", x -> x.cover(2), NONE);
        e.asked("of longs the lowest 32 bits, SEEN", x -> x.set(2, 0, (1L << 40) + 22), x -> x.cover(2), 1);
        e.asked("the last SHELF", x -> {
            x.row(7, 1, 1);
            x.set(7, 0, 17);
        }, x -> x.cover(7), 2);
    }

    /** Six shops look east along six rows, two panes along the first row from 3; the ninth south from there. */
    private static final String NINE = "house 7;house 14;house 21;house 28;house 35;house 42;house 3;pane 3 0 7 2;"
        + "pane 3 0 14 2;pane 3 0 21 2;pane 3 0 28 2;pane 3 0 35 2;pane 3 0 42 2";

    private static void coverOfNine() {
        Edges e = new Edges("promise 23, cover");
        Edges.Made eight = Edges.town(NINE).then(x -> {
            x.pane(0, 0, 3, 1);
            x.pane(0, 0, 3, 2);
        });
        Edges.Made nine = eight.then(x -> x.pane(0, 0, 3, 3));
        int[] all = {8, 15, 22, 29, 36, 43, 2, 4, 10};
        e.asked("all that eight SEE", rowOf(eight, 8, 15, 22, 29, 36, 43, 2, 4), y -> y.cover(1), 255);
        e.asked("all that nine SEE, but eight do", rowOf(nine, all), y -> y.cover(1), 255);
        e.asked("nine are wanted", rowOf(nine.then(x -> x.reach(2)), all), y -> y.cover(1), 511);
        e.asked("the ninth alone for four", rowOf(nine, 10, 17, 24, 31), y -> y.cover(1), 256);
        e.asked("fewest go ahead of the least as bits", rowOf(nine, 10, 17), y -> y.cover(1), 256);
        e.asked("of as many the least as bits", rowOf(nine, 10), y -> y.cover(1), 1);
        e.asked("of as many the least as bits, with two", rowOf(nine, 10, 2), y -> y.cover(1), 1 + 64);
    }

    private static void sole() {
        Edges e = new Edges("promise 24, sole");
        e.asked("no PANES: NONE", Edges.BARE, x -> x.sole(), NONE);
        e.asked("one that SEES nothing: that", town("house 48;pane 6 0 48 1"), x -> x.sole(), 0);
        e.asked("two that SEE nothing: the first", town("house 48;pane 6 0 48 1;pane 2 0 48 1"), x -> x.sole(), 0);
        e.asked("two that SEE the same: the first", town("house 21;pane 0 0 21 2;pane 1 0 21 2"), x -> x.sole(), 0);
        e.asked("as many each: the first", town("house 24;pane 2 0 24 0;pane 0 0 24 3;pane 0 0 24 0"),
            x -> x.sole(), 1);
        e.asked("what another SEES counts for none", town("house 21;pane 0 0 21 2;pane 1 0 21 2;pane 0 0 21 0"),
            x -> x.sole(), 2);
        e.asked("in the ordinary town", x -> x.sole(), 1);
        e.asked("the ninth", x -> {
            for (int pane = 2; pane < 8; pane++) {
                x.pane(2, 0, 48, 1);
            }
            x.pane(5, 9, 48, 1);
        }, x -> x.sole(), 8);
    }

    private static Edges.Made town(String text) {
        return Edges.town(text);
    }

    private static void whereRefused() {
        Edges e = new Edges("promise 25, where");
        for (int what : new int[] {-1, 2, MIN, MAX}) {
            e.refused("there is no what " + what, x -> x.where(0, what), -15);
            e.refused("-15 ahead of -16, what " + what, x -> x.where(4, what), -15);
        }
        for (int panes : new int[] {-1, 4, 5, 7, 1 << 30, MIN, MAX}) {
            e.refused("PANES " + panes + " of two aren't there", x -> x.where(panes, 0), -16);
            e.refused("PANES " + panes + " of two aren't there (what 1)", x -> x.where(panes, 1), -16);
        }
        e.refused("there are no PANES", Edges.BARE, x -> x.where(1, 0), -16);
        Edges.Doing nine = x -> {
            for (int pane = 2; pane < 9; pane++) {
                x.pane(0, 0, 21, 2);
            }
        };
        e.refused("a tenth isn't there", nine, x -> x.where(512, 0), -16);
        e.asked("all nine", nine, x -> x.where(511, 0), 3);
        e.asked("all nine: the first", nine, x -> x.where(511, 1), 23);
        e.asked("eight of nine", nine, x -> x.where(509, 0), 1);
        e.asked("eight of nine: the first", nine, x -> x.where(509, 1), 22);
    }

    private static void where() {
        Edges e = new Edges("promise 25, where");
        int[][] due = {{0, 37, 0}, {1, 1, 22}, {2, 5, 16}, {3, 3, 23}};
        for (int[] one : due) {
            e.asked("just PANES " + one[0] + ": how many", x -> x.where(one[0], 0), one[1]);
            e.asked("just PANES " + one[0] + ": the first", x -> x.where(one[0], 1), one[2]);
        }
        e.asked("none: 0", x -> x.reach(1), x -> x.where(3, 0), 0);
        e.asked("none: NONE", x -> x.reach(1), x -> x.where(3, 1), NONE);
        e.asked("no PANES, no HOUSES: everywhere", Edges.BARE, x -> x.where(0, 0), 49);
        e.asked("no PANES, no HOUSES: the first", Edges.BARE, x -> x.where(0, 1), 0);
        e.asked("HOUSES but at the last: one", housesBut(48), x -> x.where(0, 0), 1);
        e.asked("HOUSES but at the last: that", housesBut(48), x -> x.where(0, 1), 48);
        e.asked("HOUSES everywhere: 0", housesBut(NONE), x -> x.where(0, 0), 0);
        e.asked("HOUSES everywhere: NONE", housesBut(NONE), x -> x.where(0, 1), NONE);
    }

    private static Edges.Made housesBut(int at) {
        return Edges.BARE.then(x -> {
            for (int square = 0; square < 49; square++) {
                x.house(square, square != at);
            }
        });
    }

    private static void ask() {
        Edges e = new Edges("promise 26, ask");
        int[][] due = {
            {NONE}, {NONE, 22}, {0, 22, 22}, {0, 22, 17}, {0, 17, 17, 22}, {0, 0, 1}, {0, 24, 24}, {1, 17, 0},
            {0, 22, 17, 17}, {0, 48, 21}, {1, 22, 24}, {1, 22, 22, 24, 24}, {0, 22, 22, 22, 0, 17, 17},
        };
        for (int[] one : due) {
            int[] squares = java.util.Arrays.copyOfRange(one, 1, one.length);
            e.asked("of " + java.util.Arrays.toString(squares), rowOf(Edges.ORDINARY, squares),
                x -> x.ask(1), one[0]);
        }
        e.asked("no PANES: NONE", rowOf(Edges.BARE, 22, 17), x -> x.ask(1), NONE);
        e.asked("no PANES, none told: NONE", rowOf(Edges.BARE), x -> x.ask(1), NONE);
        e.asked("of 160 told", rowOfAll(160), x -> x.ask(1), 0);
        e.asked("of longs the lowest 32 bits", x -> x.set(2, 0, (1L << 40) + 17), x -> x.ask(2), 0);
        e.asked("each as often as it is told", x -> Due.ints(x, 1, 22, 17, 17, 17, 0, 0), x -> x.ask(1), 1);
        Edges.Made nine = town("house 48;pane 2 0 48 1;pane 2 0 48 1;pane 2 0 48 1;pane 2 0 48 1;pane 2 0 48 1;"
            + "pane 2 0 48 1;pane 2 0 48 1;pane 2 0 48 1;pane 0 0 48 1");
        e.asked("the ninth parts them", rowOf(nine, 47, 0), x -> x.ask(1), 8);
        e.asked("none parts them: the first", rowOf(nine, 0, 1), x -> x.ask(1), 0);
        e.asked("the ninth SEES both, none fewer: the first", rowOf(nine, 47, 46), x -> x.ask(1), 0);
    }

    private static void fresh() {
        Edges e = new Edges("promise 27, fresh");
        for (int square : new int[] {-1, 49, MIN, MAX}) {
            e.refused(square + " is no SQUARE", x -> x.fresh(square), -16);
        }
        e.refused("21 is a HOUSE", x -> x.fresh(21), -16);
        e.refused("48 is a HOUSE, the last", x -> x.fresh(48), -16);
        e.asked("no HOUSES: NONE", Edges.BARE, x -> x.fresh(0), NONE);
        e.asked("0, the first SQUARE", x -> x.fresh(0), 210);
        e.asked("0, behind REACH 2", x -> x.reach(2), x -> x.fresh(0), NONE);
        e.asked("none that would SEE it", x -> x.fresh(1), NONE);
        e.asked("where a WALKER is", x -> x.fresh(24), 103);
        e.asked("there are nine PANES", x -> {
            for (int pane = 2; pane < 9; pane++) {
                x.pane(0, 0, 21, 2);
            }
        }, x -> x.fresh(24), 103);
        e.asked("HOUSE 0, WAY 2: the least SQUARE", town("house 0;house 2"), x -> x.fresh(1), 2);
        e.asked("HOUSE 48, WAY 0", town("house 48"), x -> x.fresh(41), 480);
        e.asked("HOUSE 48, WAY 1: the last that can be", town("house 48"), x -> x.fresh(47), 481);
        e.asked("48, the last SQUARE", town("house 47"), x -> x.fresh(48), 472);
        e.asked("of several the least SQUARE goes ahead of the WAY", town("house 17;house 23;house 25;house 31"),
            x -> x.fresh(24), 173);
        e.asked("of two HOUSES the nearer, where it hides the other", town("house 3;house 10"), x -> x.fresh(17), 103);
        e.refused("HOUSES everywhere", housesBut(NONE), x -> x.fresh(24), -16);
        e.asked("HOUSES everywhere else", housesBut(24), x -> x.fresh(24), 173);
    }

    private static void freshByReach() {
        Edges e = new Edges("promise 27, fresh");
        for (int reach = 1; reach <= 6; reach++) {
            WindowsLookedOut x = Due.townOf("house 42;reach " + reach);
            for (int off = 1; off <= 6; off++) {
                int square = 42 + off;
                e.is("REACH " + reach + ", " + off + " off", x.fresh(square), off <= reach ? 422 : NONE);
                int above = 42 - 7 * off;
                e.is("REACH " + reach + ", " + off + " off to the north", x.fresh(above), off <= reach ? 420 : NONE);
            }
        }
    }

    private static void housedRefused() {
        Edges e = new Edges("promise 28, housed");
        for (int what : new int[] {-1, 2, MIN, MAX}) {
            e.refused("there is no what " + what, x -> x.housed(what), -15);
        }
        e.asked("HOUSES everywhere: NONE", housesBut(NONE), x -> x.housed(0), NONE);
        e.asked("HOUSES everywhere: NONE (what 1)", housesBut(NONE), x -> x.housed(1), NONE);
        e.asked("HOUSES but at the last: that", housesBut(48), x -> x.housed(0), 48);
        e.asked("HOUSES but at the last: 0", housesBut(48), x -> x.housed(1), 0);
        Edges.Made taken = housesBut(48).then(x -> x.walker(48, 0));
        e.asked("somebody is there: NONE", taken, x -> x.housed(0), NONE);
        e.asked("somebody is there: NONE (what 1)", taken, x -> x.housed(1), NONE);
        e.refused("there is no such SQUARE, nor what 2", taken, x -> x.housed(2), -15);
    }

    private static void housed(Edges e, String edge, Edges.Made made, int square, int many) {
        e.asked(edge + ": the SQUARE", made, x -> x.housed(0), square);
        e.asked(edge + ": how many", made, x -> x.housed(1), many);
    }

    private static void housed() {
        Edges e = new Edges("promise 28, housed");
        housed(e, "nothing is there", Edges.BARE, 0, 0);
        housed(e, "somebody at the first SQUARE, no PANES", town("walker 0 0"), 1, 0);
        housed(e, "a HOUSE at the first SQUARE", town("house 0"), 1, 0);
        housed(e, "none IN SIGHT", town("house 21;pane 0 0 21 2;walker 0 0"), 1, 0);
        housed(e, "one IN SIGHT", town("house 21;pane 0 0 21 2;walker 25 0"), 22, 0);
        housed(e, "right before the PANE: as many as there are", town("house 21;pane 0 0 21 2;walker 22 0"), 0, 1);
        housed(e, "two one behind the other", town("house 21;pane 0 0 21 2;walker 22 0;walker 24 0"), 23, 1);
        housed(e, "two at one SQUARE", town("house 21;pane 0 0 21 2;walker 25 0;walker 25 0"), 22, 0);
        housed(e, "two PANES SEE one: each once", town("house 21;house 27;pane 0 0 21 2;pane 0 0 27 1;walker 24 0"),
            0, 1);
        housed(e, "of several the first that hides him", town("house 3;pane 0 0 3 3;walker 31 0"), 10, 0);
        housed(e, "five WALKERS, all IN SIGHT",
            town("house 21;pane 0 0 21 2;walker 22 0;walker 22 0;walker 23 0;walker 24 0;walker 25 0"), 0, 5);
        housed(e, "in the ordinary town", Edges.ORDINARY, 0, 1);
    }
}
