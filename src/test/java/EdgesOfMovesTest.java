/** The edges of promises 35 to 39: what panes do, the trace, the image and the numbers of it all, case by case. */
public final class EdgesOfMovesTest {
    private static final int MIN = Integer.MIN_VALUE;
    private static final int MAX = Integer.MAX_VALUE;
    private static final int NONE = WindowsLookedOut.NONE;

    public static void main(String[] args) {
        actOfNone();
        actWraps();
        trace();
        traceByKinds();
        image();
        restoreRefused();
        restore();
        restoreLeaves();
        restoreShelves();
        status();
        refusalsByNumber();
        refusalsUpToTheLastCall();
        Edges.end("EdgesOfMovesTest");
    }

    private static void actOfNone() {
        Edges e = new Edges("promise 35, act");
        int[][] none = {{-1, 0}, {2, 0}, {MIN, 0}, {MAX, 0}, {0, -1}, {0, 3}, {0, MIN}, {0, MAX}, {2, 3}, {-1, -1}};
        for (int[] one : none) {
            String edge = "PANE " + one[0] + ", move " + one[1];
            e.does(edge + ": 0", x -> x.act(one[0], one[1], 7), 0);
            e.asked(edge + ": no TRACE", x -> x.act(one[0], one[1], 7), x -> x.trace(0), NONE);
            e.asked(edge + ": no bodies", x -> x.act(one[0], one[1], 7), x -> x.status(8), 0);
        }
        e.asked("ahead there was a TRACE", x -> x.trace(0), 12);
        e.does("there are no PANES: 0", Edges.BARE, x -> x.act(0, 0, 7), 0);
        e.asked("there are no PANES: no TRACE", Edges.BARE.then(x -> x.act(0, 0, 7)), x -> x.trace(0), NONE);
        e.does("the first PANE, the first move", x -> x.act(0, 0, 7), 7);
        e.does("the last PANE, the last move", x -> x.act(1, 2, 7), -(14 ^ 4));
    }

    /** By the words, worked out: m the number, k its a; a BAY's opens takes m away again. */
    private static int due(int kind, int move, int x, int m, int k) {
        int[] opens = {x + m, x + m + k, x + m, x + 1 + m + k, x, x, (x + m) * 2};
        int[] later = {x - k + m, x + m, x - k + m, x + 1 + m, x - k, x - k, (x - k + m) * 2};
        int[] shuts = {opens[0] * 2, opens[1] * 2, opens[2] * 6, opens[3] * 2, x * 2, x * 2, (x - k + m) * 12};
        if (move == 0) {
            return opens[kind];
        }
        if (move == 1) {
            return shuts[kind];
        }
        int shines = shuts[kind] ^ later[kind];
        return kind == 4 ? -shines : kind == 5 ? -shines ^ 5 : shines;
    }

    private static void actWraps() {
        Edges e = new Edges("promise 35, act, wrapping");
        int[] with = {0, 1, -1, MAX, MAX - 1, MAX - 17, MIN, MIN + 1, MIN + 9, 1 << 30, -(1 << 30),
            MAX / 3, MAX / 12 + 1};
        for (int kind = 0; kind < 7; kind++) {
            for (int a : new int[] {0, 9}) {
                WindowsLookedOut x = new WindowsLookedOut();
                x.house(3, true);
                for (int pane = 0; pane < 9; pane++) {
                    x.pane(kind, a, 3, 0);
                }
                for (int move = 0; move < 3; move++) {
                    for (int one : with) {
                        String edge = "KIND " + kind + ", a " + a + ", move " + move + ", x " + one;
                        e.is(edge + ", PANE 0", x.act(0, move, one), due(kind, move, one, 0, a));
                        e.is(edge + ", PANE 8", x.act(8, move, one), due(kind, move, one, 8, a));
                    }
                }
            }
        }
        WindowsLookedOut x = new WindowsLookedOut();
        x.house(3, true);
        x.pane(0, 0, 3, 0);
        x.pane(4, 0, 3, 0);
        x.pane(3, 0, 3, 0);
        e.is("x and m wrap", x.act(1, 0, MAX) + x.act(2, 0, MAX - 2), MAX + MIN);
        e.is("twice x wraps", x.act(0, 1, 1 << 30), MIN);
        e.is("twice MIN wraps to 0", x.act(0, 1, MIN), 0);
        e.is("of MIN the other sign is MIN", x.act(1, 2, MIN), MIN);
        e.is("x and 1 wrap", x.act(2, 0, MAX), MIN + 2);
    }

    private static void trace() {
        Edges e = new Edges("promise 36, trace");
        for (int i : new int[] {-1, 4, 5, 19, 20, 21, MIN, MAX}) {
            e.asked("none such, i " + i + ": NONE, nothing is refused", x -> x.trace(i), NONE);
        }
        e.asked("no act() yet: NONE", Edges.BARE, x -> x.trace(0), NONE);
        int[] due = {12, 11, 10, 10};
        for (int i = 0; i < due.length; i++) {
            int at = i;
            e.asked("i " + i, x -> x.trace(at), due[i]);
        }
        e.asked("of the latest alone", x -> x.act(0, 0, 5), x -> x.trace(0), 10);
        e.asked("of the latest alone, no more", x -> x.act(0, 0, 5), x -> x.trace(1), NONE);
        e.asked("of the latest alone: how many", x -> x.act(0, 0, 5), x -> x.status(8), 1);
        e.asked("the same again: not more", x -> x.act(0, 2, 5), x -> x.status(8), 4);
    }

    private static void traceByKinds() {
        Edges e = new Edges("promise 36, trace");
        int[][][] due = {
            {{10}, {11, 10}, {12, 11, 10, 10}},
            {{20, 10}, {11, 20, 10}, {12, 11, 20, 10, 20, 10}},
            {{10}, {30, 11, 10}, {12, 30, 11, 10, 10}},
            {{40, 20, 10}, {11, 40, 20, 10}, {12, 11, 40, 20, 10, 40, 20, 10}},
            {{51, 10}, {11, 51, 10}, {50, 12, 11, 51, 10, 51, 10}},
            {{51, 10}, {11, 51, 10}, {60, 50, 12, 11, 51, 10, 51, 10}},
            {{70, 10}, {71, 30, 11, 70, 10}, {12, 71, 30, 11, 70, 10, 70, 10}},
        };
        WindowsLookedOut x = new WindowsLookedOut();
        x.house(3, true);
        for (int kind = 0; kind < 7; kind++) {
            x.pane(kind, 1, 3, 0);
            for (int move = 0; move < 3; move++) {
                String edge = "KIND " + kind + ", move " + move;
                x.act(kind, move, 5);
                int[] bodies = due[kind][move];
                for (int i = 0; i < bodies.length; i++) {
                    e.is(edge + ", i " + i, x.trace(i), bodies[i]);
                }
                e.is(edge + ", behind the last", x.trace(bodies.length), NONE);
                e.is(edge + ", how many", x.status(8), bodies.length);
            }
        }
    }

    private static void image() {
        Edges e = new Edges("promise 37, image");
        e.asked("no PANES: 0", Edges.BARE, x -> x.image(), 0);
        e.asked("two PANES", x -> x.image(), 2);
        e.asked("nine PANES", x -> {
            for (int pane = 2; pane < 9; pane++) {
                x.pane(0, 0, 21, 2);
            }
        }, x -> x.image(), 9);
        e.asked("taken again: of what there is now", x -> {
            x.image();
            x.pane(0, 0, 21, 2);
        }, x -> x.image(), 3);
        e.does("taken again: the former is gone", x -> {
            x.image();
            x.pane(0, 0, 21, 2);
            x.image();
        }, x -> x.restore(), 3);
    }

    private static void restoreRefused() {
        Edges e = new Edges("promise 38, restore");
        e.refused("there is none, nothing is there", Edges.BARE, x -> x.restore(), -6);
        e.refused("there is none", x -> x.restore(), -6);
        e.does("there is one, of no PANES", Edges.BARE.then(x -> x.image()), x -> x.restore(), 0);
        e.does("there is one", x -> x.image(), x -> x.restore(), 2);
        e.does("a second time: it is still there", x -> {
            x.image();
            x.restore();
            x.pane(0, 0, 21, 2);
        }, x -> x.restore(), 2);
        Edges.Made since = Edges.BARE.then(x -> {
            x.image();
            x.house(3, true);
            x.pane(0, 0, 3, 0);
            x.walker(0, 0);
        });
        e.does("of no PANES, over some", since, x -> x.restore(), 0);
        for (int what = 0; what < 3; what++) {
            int one = what;
            e.asked("of nobody: status(" + what + ")", since.then(x -> x.restore()), x -> x.status(one), 0);
        }
    }

    /** What the image keeps comes back as it was, whatever was done since. */
    private static void restore() {
        Edges e = new Edges("promise 38, restore");
        Edges.Doing[] since = {
            x -> x.house(0, true), x -> x.house(48, false), x -> x.pane(6, 9, 21, 0), x -> x.walker(0, 0),
            x -> x.put(0, 0, 0), x -> x.put(1, 47, 3), x -> x.reach(6), x -> x.seed(-1), x -> x.days(1),
            x -> x.days(60),
        };
        String[] told = {"a HOUSE more", "a HOUSE less", "a PANE more", "a WALKER more", "the first put",
            "the last put", "REACH", "SEED", "a day", "60 DAYS"};
        for (int i = 0; i < since.length; i++) {
            int one = i;
            e.asked(told[i] + ": nothing is told of it", x -> {
                x.image();
                since[one].to(x);
                x.restore();
            }, x -> x.status(4), 0);
            WindowsLookedOut x = Edges.ordinary();
            x.image();
            long[] due = of(x);
            since[one].to(x);
            x.restore();
            long[] got = of(x);
            for (int k = 0; k < due.length; k++) {
                e.is(told[i] + ": as it was, " + k, got[k], due[k]);
            }
        }
        WindowsLookedOut x = Due.townOf("house 25;pane 0 0 25 1;walker 24 2");
        x.days(60);
        int[] kept = {x.status(4), x.status(5), x.status(6), x.status(7)};
        e.is("DAYS there are", kept[0], 60);
        e.is("SHAME there is", kept[1] > 0 ? 1 : 0, 1);
        x.image();
        x.days(60);
        x.restore();
        for (int what = 4; what < 8; what++) {
            e.is("DAYS, SHAME, TRIED, SEED of the IMAGE: status(" + what + ")", x.status(what), kept[what - 4]);
        }
    }

    private static long[] of(WindowsLookedOut x) {
        long[] of = new long[80];
        int n = 0;
        for (int what = 0; what < 8; what++) {
            of[n++] = x.status(what);
        }
        for (int square = 0; square < 49; square++) {
            of[n++] = x.seen(square, 1);
        }
        for (int i = 0; i < 2; i++) {
            for (int what = 0; what < 4; what++) {
                of[n++] = x.paneOf(i, what);
            }
            for (int what = 0; what < 3; what++) {
                of[n++] = x.walkerOf(i, what);
            }
        }
        return of;
    }

    /** SHELVES, REFUSALS, the FAULT and THE TRACE are in no IMAGE. */
    private static void restoreLeaves() {
        Edges e = new Edges("promise 38, restore");
        Edges.Doing since = x -> {
            x.image();
            x.row(0, 1, 2);
            x.set(0, 1, 9);
            x.row(8, 0, 0);
            x.act(0, 0, 1);
            Due.letters(x, 7, "w");
            x.town(7);
            x.restore();
        };
        e.asked("a ROW stays: its SORT", since, x -> x.holds(0), 101);
        e.asked("a ROW stays: its elements", since, x -> x.element(0, 1), 9);
        e.asked("REFUSALS stay: -1", since, x -> x.status(11), 1);
        e.asked("REFUSALS stay: -6", since, x -> x.status(16), 2);
        e.asked("the FAULT stays", since, x -> x.fault(), 1);
        e.asked("THE TRACE stays", since, x -> x.trace(0), 10);
        e.asked("THE TRACE stays: how many", since, x -> x.status(8), 1);
        e.does("THE IMAGE stays", since, x -> x.restore(), 2);
        e.asked("what a SHELF held when it was taken does not come back", x -> {
            x.show(0, 1);
            x.image();
            x.show(0, NONE);
            x.restore();
        }, x -> x.holds(0), NONE);
    }

    private static void restoreShelves() {
        Edges e = new Edges("promise 38, restore");
        Edges.Doing since = x -> {
            x.image();
            x.pane(1, 0, 21, 2);
            x.pane(2, 0, 21, 2);
            x.show(0, 1);
            x.show(4, 2);
            x.show(7, 3);
            x.restore();
        };
        e.asked("the last PANE that is there stays in its SHELF", since, x -> x.holds(0), 1);
        e.asked("the first stays", since, x -> x.holds(3), 0);
        e.asked("the first that is not there any more: NOTHING", since, x -> x.holds(4), NONE);
        e.asked("the last SHELF: NOTHING", since, x -> x.holds(7), NONE);
        e.asked("a ROW stays", since, x -> x.holds(1), 102);
        e.asked("what a SHELF lost does not come with a new PANE", x -> {
            since.to(x);
            x.pane(5, 0, 21, 2);
        }, x -> x.holds(4), NONE);
        e.asked("a SHELF holds the number: another PANE, by then", x -> {
            x.pane(1, 0, 21, 2);
            x.image();
            x.restore();
            x.show(0, 2);
        }, x -> x.says(0, 1), 2);
        e.asked("all PANES are there: all stay", x -> {
            x.pane(5, 1, 48, 1);
            x.show(0, 2);
            x.image();
            x.restore();
        }, x -> x.holds(0), 2);
        e.asked("no PANES are there: NOTHING", Edges.BARE.then(x -> {
            x.image();
            x.house(3, true);
            x.pane(0, 0, 3, 0);
            x.show(0, 0);
            x.restore();
        }), x -> x.holds(0), NONE);
    }

    private static void status() {
        Edges e = new Edges("promise 39, status");
        for (int what : new int[] {-1, 9, 10, 18, 19, -11, MIN, MAX, MAX - 10, MIN + 10}) {
            e.asked("another what, " + what + ": NONE, nothing is refused", x -> x.status(what), NONE);
        }
        int[] due = {2, 2, 3, 4, 0, 0, 0, 1, 4, NONE, NONE, 0, 0, 0, 0, 0, 1, 0};
        for (int what = 0; what < due.length; what++) {
            int one = what;
            e.asked("what " + what, x -> x.status(one), due[what]);
        }
    }

    private static void refusalsByNumber() {
        Edges e = new Edges("promise 39, status, REFUSALS");
        Edges.Call[] calls = {x -> x.row(8, 0, 0), x -> x.set(3, 0, 0), x -> x.set(4, 0, 0), x -> x.row(0, 0, -1),
            x -> x.paneOf(9, 0), x -> x.reach(0), x -> x.row(0, 0, 161)};
        Edges.Call[] apart = {x -> x.cover(8), x -> x.cover(3), x -> x.cover(4), x -> x.judge(0, 0, -1),
            x -> x.seen(0, 2), x -> x.seen(49, 0)};
        for (int i = 0; i < calls.length; i++) {
            e.refused("counted as " + (-1 - i), calls[i], -1 - i);
        }
        for (int i = 0; i < apart.length; i++) {
            e.refused("told as " + (-11 - i) + ", counted as " + (-1 - i), apart[i], -11 - i);
        }
    }

    private static void refusalsUpToTheLastCall() {
        Edges e = new Edges("promise 39, status, REFUSALS");
        WindowsLookedOut x = new WindowsLookedOut();
        for (int i = 0; i < 511; i++) {
            x.reach(7);
        }
        e.is("511 calls refused, told by the 512th", x.status(16), 511);
    }
}
