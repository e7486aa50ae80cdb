/** The edges of promises 18 to 22 and 29: what is seen, who looks in, which way to face and to go, case by case. */
public final class EdgesOfSightTest {
    private static final int MIN = Integer.MIN_VALUE;
    private static final int MAX = Integer.MAX_VALUE;
    private static final int NONE = WindowsLookedOut.NONE;
    private static final int[] NEXT = {-7, -1, 1, 7};

    public static void main(String[] args) {
        seen();
        linesToTheEdge();
        linesToAHouse();
        bays();
        attics();
        blindKinds();
        looks();
        looksByOff();
        looksByWays();
        looksAtTheFirstHouse();
        all();
        turn();
        wayRefused();
        way();
        wayOfShame();
        meet();
        Edges.end("EdgesOfSightTest");
    }

    private static void seen() {
        Edges e = new Edges("promise 18, seen");
        for (int square : new int[] {-1, 49, MIN, MAX}) {
            e.refused(square + " is no SQUARE", x -> x.seen(square, 0), -16);
            e.refused(square + " is no SQUARE (what 1)", x -> x.seen(square, 1), -16);
        }
        for (int what : new int[] {-1, 2, MIN, MAX}) {
            e.refused("there is no what " + what, x -> x.seen(0, what), -15);
            e.refused("-15 ahead of -16, what " + what, x -> x.seen(49, what), -15);
        }
        e.asked("0: no HOUSE", x -> x.seen(0, 1), 0);
        e.asked("48: a HOUSE", x -> x.seen(48, 1), 1);
        e.asked("0: no PANE SEES it", x -> x.seen(0, 0), 0);
        e.asked("48: a HOUSE is not SEEN", x -> x.seen(48, 0), 0);
        e.asked("21: a PANE does not SEE where it is AT", x -> x.seen(21, 0), 0);
        e.asked("24: both PANES SEE it", x -> x.seen(24, 0), 3);
        e.asked("25, the last by REACH 4: both SEE it, the bay from beside", x -> x.seen(25, 0), 3);
        e.asked("26, behind REACH 4: none SEES it", x -> x.seen(26, 0), 0);
        e.asked("nothing is there: none SEES it", Edges.BARE, x -> x.seen(48, 0), 0);
        e.asked("nine PANES SEE it", x -> {
            for (int pane = 2; pane < 9; pane++) {
                x.pane(1, 0, 21, 2);
            }
        }, x -> x.seen(24, 0), 511);
        e.asked("the ninth PANE alone", x -> {
            for (int pane = 2; pane < 8; pane++) {
                x.pane(2, 0, 48, 1);
            }
            x.pane(3, 0, 48, 1);
        }, x -> x.seen(47, 0), 256);
    }

    /** Off a pane's square by one after the other, as far as the town goes: never on to the next row. */
    private static void linesToTheEdge() {
        Edges e = new Edges("==== 2., a LINE up to the edge");
        for (int square = 0; square < 49; square++) {
            int[] room = {square / 7, square % 7, 6 - square % 7, 6 - square / 7};
            for (int way = 0; way < 4; way++) {
                WindowsLookedOut x = new WindowsLookedOut();
                x.house(square, true);
                x.pane(0, 0, square, way);
                for (int reach = 1; reach <= 6; reach++) {
                    x.reach(reach);
                    int many = Math.min(reach, room[way]);
                    String edge = "from " + square + ", WAY " + way + ", REACH " + reach;
                    e.is(edge + ": so many", x.paneOf(0, 4), many);
                    e.is(edge + ": ALL SEEN", x.all(), many);
                    for (int off = 1; off <= many; off++) {
                        e.is(edge + ": " + off + " off", x.seen(square + off * NEXT[way], 0), 1);
                    }
                }
            }
        }
    }

    private static Edges.Made paneAt21(int kind, int a, int reach, int... houses) {
        return Edges.BARE.then(x -> {
            x.house(21, true);
            x.pane(kind, a, 21, 2);
            x.reach(reach);
            for (int house : houses) {
                x.house(house, true);
            }
        });
    }

    /** That just these are seen by pane 0, and all() tells as many. */
    private static void sees(Edges e, String edge, Edges.Made made, int... squares) {
        WindowsLookedOut x = made.town();
        long due = 0;
        for (int square : squares) {
            due |= 1L << square;
        }
        for (int square = 0; square < 49; square++) {
            e.is(edge + ": SQUARE " + square, x.seen(square, 0), due >>> square & 1);
        }
        e.is(edge + ": so many", x.paneOf(0, 4), squares.length);
        e.is(edge + ": ALL SEEN", x.all(), squares.length);
    }

    private static void linesToAHouse() {
        Edges e = new Edges("==== 2., a LINE up to the first with a HOUSE");
        for (int kind : new int[] {0, 1, 3}) {
            String of = "KIND " + kind + ", ";
            sees(e, of + "the next is one", paneAt21(kind, 9, 6, 22));
            sees(e, of + "the second is one", paneAt21(kind, 9, 6, 23), 22);
            sees(e, of + "the last is one", paneAt21(kind, 9, 6, 27), 22, 23, 24, 25, 26);
            sees(e, of + "behind REACH is one", paneAt21(kind, 9, 3, 25), 22, 23, 24);
            sees(e, of + "REACH's last is one", paneAt21(kind, 9, 3, 24), 22, 23);
            sees(e, of + "two are some", paneAt21(kind, 9, 6, 24, 26), 22, 23);
            sees(e, of + "those beside are some", paneAt21(kind, 9, 2, 15, 29), 22, 23);
            sees(e, of + "REACH 1", paneAt21(kind, 9, 1), 22);
        }
    }

    private static void bays() {
        Edges e = new Edges("==== 2., a BAY");
        sees(e, "REACH 1: those beside the first", paneAt21(4, 9, 1), 22, 15, 29);
        sees(e, "REACH 2: those beside the first two", paneAt21(4, 9, 2), 22, 15, 29, 23, 16, 30);
        sees(e, "REACH 3: no more beside", paneAt21(4, 9, 3), 22, 15, 29, 23, 16, 30, 24);
        sees(e, "the next is a HOUSE", paneAt21(4, 9, 6, 22));
        sees(e, "the second is a HOUSE", paneAt21(4, 9, 6, 23), 22, 15, 29);
        sees(e, "HOUSES beside", paneAt21(4, 9, 2, 15, 30), 22, 29, 23, 16);
        sees(e, "HOUSES behind those beside", paneAt21(4, 9, 2, 8, 36), 22, 15, 29, 23, 16, 30);
        int[][] corners = {{0, 2, 1, 2, 3, 4, 8, 9}, {0, 3, 7, 14, 21, 28, 8, 15}, {6, 1, 5, 4, 3, 2, 12, 11},
            {42, 0, 35, 28, 21, 14, 36, 29}, {48, 1, 47, 46, 45, 44, 40, 39}, {48, 0, 41, 34, 27, 20, 40, 33},
            {0, 0}, {0, 1}, {6, 2}, {48, 3}, {45, 0, 38, 31, 24, 17, 37, 39, 30, 32}, {1, 1, 0, 7},
            {5, 2, 6, 13}, {47, 2, 48, 41}, {8, 0, 1, 0, 2}, {40, 3, 47, 46, 48}};
        for (int[] one : corners) {
            String town = "house " + one[0] + ";pane 4 0 " + one[0] + " " + one[1];
            sees(e, "at " + one[0] + ", WAY " + one[1], Edges.town(town),
                java.util.Arrays.copyOfRange(one, 2, one.length));
        }
    }

    /** REACH and a. */
    private static void attics() {
        Edges e = new Edges("==== 2., an ATTIC");
        sees(e, "a 0, REACH 1", paneAt21(5, 0, 1), 22, 15, 29);
        sees(e, "a 1, REACH 1", paneAt21(5, 1, 1), 22, 15, 29, 23, 16, 30);
        sees(e, "a 2, REACH 1", paneAt21(5, 2, 1), 22, 15, 29, 23, 16, 30, 24);
        sees(e, "a 5, REACH 1: up to the edge", paneAt21(5, 5, 1), 22, 15, 29, 23, 16, 30, 24, 25, 26, 27);
        sees(e, "a 4, REACH 1: one short of it", paneAt21(5, 4, 1), 22, 15, 29, 23, 16, 30, 24, 25, 26);
        sees(e, "a 9, REACH 6: up to the edge", paneAt21(5, 9, 6), 22, 15, 29, 23, 16, 30, 24, 25, 26, 27);
        sees(e, "the next is a HOUSE", paneAt21(5, 9, 6, 22));
        sees(e, "the last is a HOUSE", paneAt21(5, 9, 6, 27), 22, 15, 29, 23, 16, 30, 24, 25, 26);
    }

    private static void blindKinds() {
        Edges e = new Edges("==== 2., CURTAINED, BLIND");
        sees(e, "CURTAINED: nothing", paneAt21(2, 9, 6));
        sees(e, "BLIND: nothing", paneAt21(6, 9, 6));
    }

    private static void looks() {
        Edges e = new Edges("promise 19, looks");
        for (int square : new int[] {-1, 49, MIN, MAX}) {
            e.refused(square + " is no SQUARE", x -> x.looks(square, 0), -16);
        }
        for (int way : new int[] {-1, 4, MIN, MAX}) {
            e.refused(way + " is no WAY", x -> x.looks(0, way), -16);
        }
        e.refused("21 is a HOUSE", x -> x.looks(21, 0), -16);
        e.refused("48 is a HOUSE without PANE", x -> x.looks(48, 0), -16);
        e.refused("neither SQUARE nor WAY: once", x -> x.looks(49, 4), -16);
        e.asked("from 0: none", x -> x.looks(0, 0), 0);
        e.asked("from 47 at a HOUSE without PANE: none", x -> x.looks(47, 2), 0);
        e.asked("where a WALKER is", x -> x.looks(24, 1), 1);
        e.asked("48, the last SQUARE", x -> x.house(48, false), x -> x.looks(48, 3), 0);
        e.asked("nine PANES", x -> {
            for (int pane = 2; pane < 9; pane++) {
                x.pane(6, 0, 21, 2);
            }
        }, x -> x.looks(22, 1), 1 + 508);
        e.asked("no PANES", Edges.BARE, x -> x.looks(24, 1), 0);
    }

    /** So many squares off at most, by KINDS, a and REACH. */
    private static void looksByOff() {
        Edges e = new Edges("==== 2., LOOKS IN");
        for (int kind = 0; kind < 7; kind++) {
            for (int a = 0; a <= 9; a++) {
                for (int reach = 1; reach <= 6; reach++) {
                    int most = kind == 1 ? 0 : kind == 3 ? 1 : kind == 2 ? Math.min(a + 1, reach) : reach;
                    WindowsLookedOut x = paneAt21(kind, a, reach).town();
                    for (int off = 1; off <= 6; off++) {
                        e.is("KIND " + kind + ", a " + a + ", REACH " + reach + ", " + off + " off",
                            x.looks(21 + off, 1), off <= most ? 1 : 0);
                    }
                }
            }
        }
    }

    /** 0 and 3, 1 and 2. */
    private static void looksByWays() {
        Edges e = new Edges("==== 2., LOOKS IN, the other way about");
        for (int out = 0; out < 4; out++) {
            WindowsLookedOut x = new WindowsLookedOut();
            x.house(24, true);
            x.pane(0, 0, 24, out);
            for (int faced = 0; faced < 4; faced++) {
                for (int off = 1; off <= 3; off++) {
                    e.is("WAY out " + out + ", he FACES " + faced + ", " + off + " off",
                        x.looks(24 - off * NEXT[faced], faced), faced + out == 3 ? 1 : 0);
                    e.is("WAY out " + out + ", turned away " + faced + ", " + off + " off",
                        x.looks(24 - off * NEXT[faced], 3 - faced), 0);
                }
            }
        }
    }

    private static void looksAtTheFirstHouse() {
        Edges e = new Edges("==== 2., LOOKS IN, at the first HOUSE");
        e.asked("a HOUSE between", paneAt21(0, 0, 6, 23), x -> x.looks(24, 1), 0);
        e.asked("a HOUSE right before the PANE", paneAt21(0, 0, 6, 22), x -> x.looks(23, 1), 0);
        e.asked("a HOUSE right before him", paneAt21(0, 0, 6, 26), x -> x.looks(27, 1), 0);
        e.asked("a HOUSE behind him", paneAt21(0, 0, 6, 25), x -> x.looks(24, 1), 1);
        e.asked("a HOUSE behind the PANE's", paneAt21(0, 0, 6, 20), x -> x.looks(24, 1), 1);
        e.asked("a PANE at the one between: that one", paneAt21(0, 0, 6, 23).then(x -> x.pane(0, 0, 23, 2)),
            x -> x.looks(24, 1), 2);
        Edges.Made rows = Edges.town("house 6;pane 0 0 6 2");
        e.asked("from 7 to the west is the edge, not 6", rows, x -> x.looks(7, 1), 0);
        e.asked("from 13 to the north is 6, but WAY 2 is not 3", rows, x -> x.looks(13, 0), 0);
    }

    private static void all() {
        Edges e = new Edges("promise 20, all");
        e.asked("no PANES: 0", Edges.BARE, x -> x.all(), 0);
        e.asked("PANES that SEE nothing: 0", paneAt21(6, 9, 6), x -> x.all(), 0);
        e.asked("what two SEE is counted once", x -> x.all(), 9);
        Edges.Made seven = Edges.BARE.then(x -> {
            x.reach(6);
            for (int row = 0; row < 7; row++) {
                x.house(7 * row, true);
                x.pane(0, 0, 7 * row, 2);
            }
        });
        e.asked("seven rows, six SQUARES of each", seven, x -> x.all(), 42);
        e.asked("nine PANES", seven.then(x -> {
            x.pane(6, 0, 0, 3);
            x.pane(4, 0, 0, 0);
        }), x -> x.all(), 42);
    }

    private static Edges.Made hemmedIn(int... panes) {
        return Edges.BARE.then(x -> {
            x.walker(24, 3);
            for (int way = 0; way < 4; way++) {
                x.house(24 + NEXT[way], true);
                for (int i = 0; i < panes[way]; i++) {
                    x.pane(0, 0, 24 + NEXT[way], 3 - way);
                }
            }
        });
    }

    private static void turn() {
        Edges e = new Edges("promise 21, turn");
        for (int walker : new int[] {-1, 2, MIN, MAX}) {
            e.refused("there is no WALKER " + walker, x -> x.turn(walker, 0), -1);
            e.refused("-1 ahead of -5, WALKER " + walker, x -> x.turn(walker, 2), -1);
        }
        for (int what : new int[] {-1, 2, MIN, MAX}) {
            e.refused("there is no what " + what, x -> x.turn(0, what), -5);
        }
        e.refused("there are no WALKERS", Edges.BARE, x -> x.turn(0, 0), -1);
        e.asked("the first WALKER", x -> x.turn(0, 0), 2);
        e.asked("the last WALKER", x -> x.turn(1, 0), 0);
        int[][] due = {
            {0, 0, 0, 0, 0, 0}, {1, 0, 0, 0, 1, 0}, {1, 1, 0, 0, 2, 0}, {1, 1, 1, 0, 3, 0}, {0, 1, 1, 1, 0, 0},
            {1, 1, 1, 1, 0, 1}, {2, 2, 2, 1, 3, 1}, {2, 1, 2, 1, 1, 1}, {2, 2, 2, 2, 0, 2}, {3, 2, 2, 2, 1, 2},
        };
        for (int[] one : due) {
            String edge = "PANES on the WAYS " + one[0] + ", " + one[1] + ", " + one[2] + ", " + one[3];
            e.asked(edge + ": the WAY", hemmedIn(one), x -> x.turn(0, 0), one[4]);
            e.asked(edge + ": SHAME", hemmedIn(one), x -> x.turn(0, 1), one[5]);
        }
    }

    private static void way(Edges e, String edge, Edges.Made made, int square, int... due) {
        for (int what = 0; what < 3; what++) {
            int one = what;
            e.asked(edge + ", what " + what, made, x -> x.way(0, square, one), due[what]);
        }
    }

    private static void wayRefused() {
        Edges e = new Edges("promise 22, way");
        for (int walker : new int[] {-1, 2, MIN, MAX}) {
            e.refused("there is no WALKER " + walker, x -> x.way(walker, 0, 0), -11);
        }
        for (int what : new int[] {-1, 3, MIN, MAX}) {
            e.refused("there is no what " + what, x -> x.way(0, 0, what), -15);
        }
        for (int square : new int[] {-1, 49, MIN, MAX}) {
            e.refused(square + " is no SQUARE", x -> x.way(0, square, 0), -16);
        }
        for (int what = 0; what < 3; what++) {
            int one = what;
            e.refused("21 is a HOUSE, what " + what, x -> x.way(0, 21, one), -16);
        }
        e.refused("there are no WALKERS", Edges.BARE, x -> x.way(0, 0, 0), -11);
        e.refused("-11 ahead of -15", x -> x.way(2, 0, 3), -11);
        e.refused("-11 ahead of -16", x -> x.way(2, 49, 0), -11);
        e.refused("-15 ahead of -16 for no SQUARE", x -> x.way(0, 49, 3), -15);
        e.refused("-15 ahead of -16 for a HOUSE", x -> x.way(0, 21, 3), -15);
    }

    private static void way() {
        Edges e = new Edges("promise 22, way");
        way(e, "AT it: 0, 0, NONE", Edges.ORDINARY, 24, 0, 0, NONE);
        way(e, "to where another is", Edges.ORDINARY, 5, 0, 5, 2);
        way(e, "to the first SQUARE", Edges.ORDINARY, 0, 0, 8, 2);
        way(e, "to the last SQUARE", Edges.ORDINARY.then(x -> x.house(48, false)), 48, 0, 6, 2);
        way(e, "there is no way: NONE for all", hemmedIn(0, 0, 0, 0), 0, NONE, NONE, NONE);
        way(e, "there is no way, but AT it he is", hemmedIn(1, 1, 1, 1), 24, 0, 0, NONE);
        Edges.Made winding = Edges.BARE.then(x -> {
            for (int i = 0; i < 6; i++) {
                x.house(7 + i, true);
                x.house(22 + i, true);
                x.house(35 + i, true);
            }
            x.walker(0, 0);
        });
        way(e, "winding through the town: 30 STEPS", winding, 42, 0, 30, 2);
        way(e, "to the next only", winding, 1, 0, 1, 2);
        way(e, "to the next, asked behind the farthest", winding.then(x -> x.way(0, 42, 0)), 1, 0, 1, 2);
        Edges.Made parted = winding.then(x -> x.house(20, true));
        way(e, "the town is parted in two", parted, 42, NONE, NONE, NONE);
        way(e, "the near part of it", parted, 13, 0, 7, 2);
        way(e, "from the last to the first: of several the least WAY", Edges.town("walker 48 0"), 0, 0, 12, 0);
        way(e, "from the first to the last: of several the least WAY", Edges.town("walker 0 0"), 48, 0, 12, 2);
        way(e, "from a corner to that across: of several the least WAY", Edges.town("walker 6 0"), 42, 0, 12, 1);
        way(e, "from the other corner: of several the least WAY", Edges.town("walker 42 3"), 6, 0, 12, 0);
    }

    private static void wayOfShame() {
        Edges e = new Edges("promise 22, way");
        Edges.Made lane = Edges.BARE.then(x -> {
            for (int square = 6; square < 14; square++) {
                x.house(square, true);
            }
            for (int pane = 0; pane < 9; pane++) {
                x.pane(0, 0, 6, 1);
            }
            x.reach(6);
            x.walker(0, 2);
        });
        way(e, "where he is he LOOKS IN, but it is behind each STEP that is counted", lane, 0, 0, 0, NONE);
        way(e, "nine PANES, one STEP", lane, 1, 9, 1, 2);
        way(e, "nine PANES, five STEPS", lane, 5, 45, 5, 2);
        Edges.Made near = lane.then(x -> x.reach(1));
        way(e, "REACH 1: but the last STEP", near, 5, 9, 5, 2);
        way(e, "REACH 1: not yet the last but one", near, 4, 0, 4, 2);
        way(e, "turned away", lane.then(x -> x.put(0, 5, 2)), 0, 0, 5, 1);
        Edges.Made open = Edges.town("house 27;pane 0 0 27 1;reach 6;walker 21 0");
        way(e, "SHAME goes ahead of STEPS: round about", open, 26, 0, 7, 0);
        Edges.Made fenced = Edges.town("house 27;pane 0 0 27 1;reach 6;walker 21 0;house 19;house 33");
        way(e, "SHAME that must be: once, and from beside", fenced, 26, 1, 7, 0);
        Edges.Made lined = fenced.then(x -> {
            for (int column = 1; column < 5; column++) {
                x.house(14 + column, true);
                x.house(28 + column, true);
            }
        });
        way(e, "SHAME that must be: each STEP", lined, 26, 5, 5, 2);
    }

    private static void meet(Edges e, String edge, Edges.Made made, int steps, int square) {
        e.asked(edge + ": STEPS", made, x -> x.meet(0, 1, 0), steps);
        e.asked(edge + ": the SQUARE", made, x -> x.meet(0, 1, 1), square);
        e.asked(edge + ", the other first: STEPS", made, x -> x.meet(1, 0, 0), steps);
        e.asked(edge + ", the other first: the SQUARE", made, x -> x.meet(1, 0, 1), square);
    }

    private static Edges.Made two(int one, int other, int... houses) {
        return Edges.BARE.then(x -> {
            x.walker(one, 0);
            x.walker(other, 0);
            for (int house : houses) {
                x.house(house, true);
            }
        });
    }

    private static void meet() {
        Edges e = new Edges("promise 29, meet");
        for (int walker : new int[] {-1, 2, MIN, MAX}) {
            e.refused("there is no WALKER " + walker, x -> x.meet(walker, 0, 0), -11);
            e.refused("there is no other WALKER " + walker, x -> x.meet(0, walker, 0), -11);
            e.refused("the same, who is not there, " + walker, x -> x.meet(walker, walker, 0), -11);
        }
        for (int what : new int[] {-1, 2, MIN, MAX}) {
            e.refused("there is no what " + what, x -> x.meet(0, 1, what), -15);
        }
        e.refused("the same WALKER", x -> x.meet(0, 0, 0), -16);
        e.refused("the same WALKER, the last", x -> x.meet(1, 1, 1), -16);
        e.refused("there are no WALKERS", Edges.BARE, x -> x.meet(0, 0, 0), -11);
        e.refused("-11 ahead of -15", x -> x.meet(0, 2, 2), -11);
        e.refused("-15 ahead of -16", x -> x.meet(0, 0, 2), -15);
        meet(e, "both at one SQUARE: none", two(24, 24), 0, 24);
        meet(e, "both at the first SQUARE", two(0, 0), 0, 0);
        meet(e, "both at the last SQUARE", two(48, 48), 0, 48);
        meet(e, "side by side: of several the first", two(24, 25), 1, 24);
        meet(e, "one above the other: of several the first", two(31, 24), 1, 24);
        meet(e, "corner and corner: of several the first", two(0, 48), 12, 0);
        meet(e, "the other corners: of several the first", two(42, 6), 12, 0);
        meet(e, "there is no way", two(0, 48, 1, 7), NONE, NONE);
        meet(e, "there is no way from the last", two(0, 48, 47, 41), NONE, NONE);
        meet(e, "hemmed in both, at one SQUARE", two(0, 0, 1, 7), 0, 0);
        meet(e, "a HOUSE between: around it", two(23, 25, 24, 17), 4, 23);
        meet(e, "SHAME is not asked for", two(24, 26, 27).then(x -> x.pane(0, 0, 27, 1)), 2, 24);
    }
}
