/** The edges of promises 30 to 34: told walks, days by draws, the seed, case by case. */
public final class EdgesOfWalksTest {
    private static final int MIN = Integer.MIN_VALUE;
    private static final int MAX = Integer.MAX_VALUE;
    private static final int NONE = WindowsLookedOut.NONE;
    /** Houses along a row; at its east end, at 6, a plain pane that looks west, two mirrors and a shop. */
    private static final String LANE = "house 7;house 8;house 9;house 10;house 11;house 12;house 6;pane 0 0 6 1;"
        + "pane 1 0 6 1;pane 1 0 6 1;pane 3 0 6 1;walker 0 3;reach 2";

    public static void main(String[] args) {
        refused("promise 30, judge", -10, (x, s, walker, n) -> x.judge(s, walker, n));
        for (int what = 0; what < 3; what++) {
            int one = what;
            refused("promise 31, behind, what " + what, 0, (x, s, walker, n) -> x.behind(s, walker, n, one));
        }
        refused("promise 32, done", 0, (x, s, walker, n) -> x.done(s, walker, n));
        behindOtherWhats();
        judge();
        longWalks();
        behind();
        behindWrong();
        done();
        doneTried();
        daysRefused();
        days();
        daysOfShame();
        draws();
        seed();
        Edges.end("EdgesOfWalksTest");
    }

    interface Walking {
        int of(WindowsLookedOut x, int s, int walker, int n);
    }

    /** What judge, behind and done refuse alike; judge tells it 10 lower. */
    private static void refused(String promise, int lower, Walking w) {
        Edges e = new Edges(promise);
        for (int s : new int[] {-1, 8, MIN, MAX}) {
            e.refused("s " + s + " is no SHELF", x -> w.of(x, s, 0, 1), lower - 1);
        }
        for (int walker : new int[] {-1, 2, MIN, MAX}) {
            e.refused("there is no WALKER " + walker, x -> w.of(x, 0, walker, 1), lower - 1);
        }
        e.refused("there are no WALKERS", Edges.BARE, x -> w.of(x, 0, 0, 0), lower - 1);
        e.refused("a PANE is no ROW", x -> w.of(x, 3, 0, 1), lower - 2);
        e.refused("a PANE is no ROW for none, too", x -> w.of(x, 3, 0, 0), lower - 2);
        e.refused("NOTHING is there", x -> w.of(x, 4, 0, 1), lower - 3);
        e.refused("NOTHING is there for none, too", x -> w.of(x, 4, 0, 0), lower - 3);
        e.refused("n -1 is below 0", x -> w.of(x, 0, 0, -1), lower - 4);
        e.refused("n MIN is below 0", x -> w.of(x, 0, 0, MIN), lower - 4);
        e.refused("n 4 of 3", x -> w.of(x, 0, 0, 4), lower - 5);
        e.refused("n MAX of 3", x -> w.of(x, 0, 0, MAX), lower - 5);
        e.refused("n 1 of none", x -> w.of(x, 6, 0, 1), lower - 5);
        e.refused("-1 for the SHELF ahead of -4", x -> w.of(x, 8, 0, -1), lower - 1);
        e.refused("-1 for the WALKER ahead of -2", x -> w.of(x, 3, 2, 1), lower - 1);
        e.refused("-1 for the WALKER ahead of -3", x -> w.of(x, 4, 2, 1), lower - 1);
        e.refused("-1 for the WALKER ahead of -4", x -> w.of(x, 0, 2, -1), lower - 1);
        e.refused("-1 for the WALKER ahead of -5", x -> w.of(x, 0, 2, 4), lower - 1);
        e.refused("-2 ahead of -4", x -> w.of(x, 3, 0, -1), lower - 2);
        e.refused("-2 ahead of -5", x -> w.of(x, 3, 0, 1), lower - 2);
        e.refused("-3 ahead of -4", x -> w.of(x, 4, 0, -1), lower - 3);
        e.refused("-3 ahead of -5", x -> w.of(x, 4, 0, 1), lower - 3);
        e.refused("-5 ahead of -6, n 61 of 3", x -> w.of(x, 0, 0, 61), lower - 5);
        e.refused("-5 ahead of -6, n 61 of 60", toAndFro(60), x -> w.of(x, 0, 0, 61), lower - 5);
        e.refused("n 61 is above 60", toAndFro(61), x -> w.of(x, 0, 0, 61), lower - 6);
        e.refused("n 61 is above 60, and WRONG besides", toAndFro(61).then(x -> x.set(0, 0, 9)),
            x -> w.of(x, 0, 0, 61), lower - 6);
    }

    /** A walker at 24, and in shelf 0 a walk of n steps to the west and back by turns. */
    private static Edges.Made toAndFro(int n) {
        return Edges.BARE.then(x -> {
            x.walker(24, 0);
            x.row(0, 0, n);
            for (int i = 0; i < n; i++) {
                x.set(0, i, 1 + i % 2);
            }
        });
    }

    private static void behindOtherWhats() {
        Edges e = new Edges("promise 31, behind");
        for (int what : new int[] {-1, 3, MIN, MAX}) {
            e.refused("there is no what " + what, x -> x.behind(0, 0, 1, what), -5);
            e.refused("-1 ahead of -5, what " + what, x -> x.behind(8, 0, 1, what), -1);
            e.refused("-2 ahead of -5, what " + what, x -> x.behind(3, 0, 1, what), -2);
            e.refused("-3 ahead of -5, what " + what, x -> x.behind(4, 0, 1, what), -3);
            e.refused("-4 ahead of -5, what " + what, x -> x.behind(0, 0, -1, what), -4);
            e.refused("neither what nor elements: once, what " + what, x -> x.behind(0, 0, 4, what), -5);
            e.refused("-5 ahead of -6 for n 61, what " + what, toAndFro(61), x -> x.behind(0, 0, 61, what), -5);
            e.refused("-5 ahead of -6 for WRONG, what " + what, x -> x.set(0, 0, 9),
                x -> x.behind(0, 0, 1, what), -5);
        }
    }

    private static Edges.Made walk(String town, long... ways) {
        return Edges.town(town).then(x -> {
            x.row(0, 3, ways.length);
            for (int i = 0; i < ways.length; i++) {
                x.set(0, i, ways[i]);
            }
        });
    }

    private static void judge() {
        Edges e = new Edges("promise 30, judge");
        e.asked("n 0: NONE", x -> x.judge(0, 0, 0), NONE);
        e.asked("n 0 of an empty ROW: NONE", x -> x.judge(6, 0, 0), NONE);
        e.asked("n 0, and what follows would be WRONG: NONE", x -> x.set(0, 0, 9), x -> x.judge(0, 0, 0), NONE);
        e.asked("the whole ROW: NONE", x -> x.judge(0, 0, 3), NONE);
        e.asked("the last WALKER", x -> x.judge(0, 1, 3), NONE);
        for (long way : new long[] {-1, 4, MIN, MAX, 1L << 31, Long.MAX_VALUE}) {
            e.asked(way + " is no WAY: the first STEP", walk("walker 24 0", way), x -> x.judge(0, 0, 1), 0);
            e.asked(way + " is no WAY: the third STEP", walk("walker 24 0", 0, 3, way), x -> x.judge(0, 0, 3), 2);
            e.asked(way + " is no WAY, but n is 2", walk("walker 24 0", 0, 3, way), x -> x.judge(0, 0, 2), NONE);
        }
        e.asked("of longs the lowest 32 bits", walk("walker 24 0", 1L << 32, -1L << 33), x -> x.judge(0, 0, 2), NONE);
        int[][] edges = {{0, 0}, {0, 1}, {6, 0}, {6, 2}, {42, 1}, {42, 3}, {48, 2}, {48, 3}, {7, 1}, {13, 2},
            {3, 0}, {45, 3}};
        for (int[] one : edges) {
            e.asked("the edge, from " + one[0] + ", WAY " + one[1], walk("walker " + one[0] + " 0", one[1]),
                x -> x.judge(0, 0, 1), 0);
        }
        e.asked("the edge at the fourth STEP", walk("walker 24 0", 0, 0, 0, 0, 0), x -> x.judge(0, 0, 5), 3);
        e.asked("a HOUSE", walk("house 25;walker 24 0", 2), x -> x.judge(0, 0, 1), 0);
        e.asked("a HOUSE at the second STEP", walk("house 26;walker 24 0", 2, 2), x -> x.judge(0, 0, 2), 1);
        e.asked("where another is may be gone", walk("walker 24 0;walker 25 0", 2), x -> x.judge(0, 0, 1), NONE);
        e.asked("behind one that was WRONG", walk("walker 0 0", 2, 0).then(x -> x.judge(0, 0, 2)),
            x -> x.judge(0, 0, 1), NONE);
        e.asked("of two WRONG the first", walk("walker 0 0", 2, 0, 9), x -> x.judge(0, 0, 3), 1);
    }

    private static void longWalks() {
        Edges e = new Edges("promises 30 to 32, n 60 is the most");
        e.asked("judge", toAndFro(61), x -> x.judge(0, 0, 60), NONE);
        e.asked("behind, where", toAndFro(61), x -> x.behind(0, 0, 60, 1), 24);
        e.asked("behind 59, where", toAndFro(61), x -> x.behind(0, 0, 59, 1), 23);
        e.does("done", toAndFro(60), x -> x.done(0, 0, 60), 0);
        Edges.Made wrong = toAndFro(60).then(x -> x.set(0, 59, 4));
        e.asked("the 60th is WRONG: judge", wrong, x -> x.judge(0, 0, 60), 59);
        e.refused("the 60th is WRONG: behind", wrong, x -> x.behind(0, 0, 60, 0), -6);
        e.refused("the 60th is WRONG: done", wrong, x -> x.done(0, 0, 60), -6);
        Edges.Made shame = toAndFro(60).then(x -> {
            x.house(22, true);
            x.pane(0, 0, 22, 2);
        });
        e.asked("SHAME at each second STEP", shame, x -> x.behind(0, 0, 60, 0), 30);
        e.asked("the PANE is one", shame, x -> x.behind(0, 0, 60, 2), 1);
        e.does("SHAME of the town", shame, x -> x.done(0, 0, 60), 30);
        e.asked("TRIED but once more", shame.then(x -> x.done(0, 0, 60)), x -> x.walkerOf(0, 2), 1);
    }

    private static void behind() {
        Edges e = new Edges("promise 31, behind");
        int[][] due = {{0, 0, 0}, {0, 1, 0}, {0, 2, 0}, {0, 3, 0}, {1, 4, 1}, {3, 5, 2}, {3, 4, 2}, {5, 5, 2}};
        Edges.Made made = walk(LANE, 2, 2, 2, 2, 2, 1, 2);
        for (int n = 0; n < due.length; n++) {
            for (int what = 0; what < 3; what++) {
                int many = n;
                int one = what;
                e.asked("n " + n + ", what " + what, made, x -> x.behind(0, 0, many, one), due[n][what]);
            }
        }
        for (int what = 0; what < 3; what++) {
            int one = what;
            e.asked("n 0, asked behind n 7, what " + what, made.then(x -> x.behind(0, 0, 7, one)),
                x -> x.behind(0, 0, 0, one), 0);
        }
        Edges.Made before = walk(LANE, 1).then(x -> x.put(0, 5, 2));
        e.asked("where he starts he LOOKS IN", before, y -> y.walkerOf(0, 3), 2);
        e.asked("n 0: that is not counted", before, y -> y.behind(0, 0, 0, 0), 0);
        e.asked("n 0: where he is", before, y -> y.behind(0, 0, 0, 1), 5);
        e.asked("n 0: no PANES", before, y -> y.behind(0, 0, 0, 2), 0);
        e.asked("n 1, turned away: not counted", before, y -> y.behind(0, 0, 1, 0), 0);
        e.asked("n 1, turned away: no PANES", before, y -> y.behind(0, 0, 1, 2), 0);
        e.asked("n 0 of an empty ROW", y -> y.behind(6, 0, 0, 1), 24);
        Edges.Made nine = walk("house 6;walker 4 0", 2, 1, 2).then(x -> {
            for (int pane = 0; pane < 9; pane++) {
                x.pane(6, 0, 6, 1);
            }
        });
        e.asked("nine PANES, twice: SHAME", nine, y -> y.behind(0, 0, 3, 0), 18);
        e.asked("nine PANES, twice: each once", nine, y -> y.behind(0, 0, 3, 2), 9);
    }

    private static void behindWrong() {
        Edges e = new Edges("promises 31 and 32, WRONG");
        Edges.Made[] wrong = {walk("walker 24 0", 4), walk("walker 24 0", -1), walk("walker 0 0", 0),
            walk("house 25;walker 24 0", 2)};
        String[] told = {"no WAY", "no WAY below 0", "the edge", "a HOUSE"};
        for (int i = 0; i < wrong.length; i++) {
            for (int what = 0; what < 3; what++) {
                int one = what;
                e.refused(told[i] + ", behind what " + what, wrong[i], x -> x.behind(0, 0, 1, one), -6);
            }
            e.refused(told[i] + ", done", wrong[i], x -> x.done(0, 0, 1), -6);
            e.does(told[i] + ", but n is 0: done", wrong[i], x -> x.done(0, 0, 0), 0);
        }
        Edges.Made late = walk(LANE, 2, 2, 2, 2, 2, 2);
        e.refused("the sixth is a HOUSE: nothing of it is done", late, x -> x.done(0, 0, 6), -6);
        e.does("the first five can be", late, x -> x.done(0, 0, 5), 3);
        e.does("the first five can be, behind six that were WRONG", late.then(x -> x.done(0, 0, 6)),
            x -> x.done(0, 0, 5), 3);
    }

    private static void done() {
        Edges e = new Edges("promise 32, done");
        e.does("n 0: SHAME of the town", x -> x.done(0, 0, 0), 0);
        e.does("n 0 of an empty ROW", x -> x.done(6, 0, 0), 0);
        e.asked("n 0: he stays", x -> x.done(0, 0, 0), x -> x.walkerOf(0, 0), 24);
        e.asked("n 0: he FACES as before", x -> x.done(0, 0, 0), x -> x.walkerOf(0, 1), 1);
        e.asked("n 0: he LOOKS IN, but it is not TRIED", x -> x.done(0, 0, 0), x -> x.walkerOf(0, 2), 0);
        e.asked("n 0: no DAY goes by", x -> x.done(0, 0, 0), x -> x.status(4), 0);
        e.asked("n 3: where he is", x -> x.done(0, 0, 3), x -> x.walkerOf(0, 0), 31);
        e.asked("n 3: he FACES the last WAY", x -> x.done(0, 0, 3), x -> x.walkerOf(0, 1), 1);
        e.asked("n 3: no DAY goes by", x -> x.done(0, 0, 3), x -> x.status(4), 0);
        e.asked("n 3: SEED stays", x -> x.done(0, 0, 3), x -> x.status(7), 1);
        e.asked("n 3: the other WALKER stays", x -> x.done(0, 0, 3), x -> x.walkerOf(1, 0), 5);
        e.asked("the last WALKER", x -> x.done(0, 1, 2), x -> x.walkerOf(1, 0), 13);
    }

    private static void doneTried() {
        Edges e = new Edges("promise 32, done");
        int[][] due = {{0, 0, 0}, {3, 0, 0}, {4, 1, 1}, {5, 3, 1}, {7, 5, 1}};
        for (int[] one : due) {
            Edges.Made made = walk(LANE, 2, 2, 2, 2, 2, 1, 2);
            String edge = "STEPS " + one[0];
            e.does(edge + ": SHAME of the town", made, x -> x.done(0, 0, one[0]), one[1]);
            Edges.Made gone = made.then(x -> x.done(0, 0, one[0]));
            e.asked(edge + ": SHAME", gone, x -> x.status(5), one[1]);
            e.asked(edge + ": TRIED", gone, x -> x.walkerOf(0, 2), one[2]);
            e.asked(edge + ": TRIED together", gone, x -> x.status(6), one[2]);
            Edges.Made back = gone.then(x -> x.put(0, 0, 3));
            e.does(edge + ", a second time: SHAME of the town", back, x -> x.done(0, 0, one[0]), 2 * one[1]);
            e.asked(edge + ", a second time: TRIED", back.then(x -> x.done(0, 0, one[0])),
                x -> x.walkerOf(0, 2), 2 * one[2]);
        }
    }

    private static void daysRefused() {
        Edges e = new Edges("promise 33, days");
        for (int n : new int[] {-1, 0, 61, MIN, MAX}) {
            e.refused("n " + n + " may not be", x -> x.days(n), -6);
            e.refused("-5 ahead of -6, n " + n, Edges.BARE, x -> x.days(n), -5);
        }
        e.refused("there are no WALKERS", Edges.BARE, x -> x.days(1), -5);
        e.refused("there are no WALKERS, but PANES", Edges.town("house 3;pane 0 0 3 0"), x -> x.days(60), -5);
        e.asked("n 1 is the least", x -> x.days(1), x -> x.status(4), 1);
        e.asked("n 60 is the most", x -> x.days(60), x -> x.status(4), 60);
        e.asked("DAYS go on", x -> {
            x.days(60);
            x.days(60);
        }, x -> x.status(4), 120);
    }

    /** From SEED 1 the draws below 4 are 2, 2, 1, 3, 3, 3, 2, 3, 0, 2. */
    private static void days() {
        Edges e = new Edges("promise 33, days");
        int[] at = {25, 26, 25, 32, 39, 46, 47, 47, 40, 41};
        int[] faced = {2, 2, 1, 3, 3, 3, 2, 3, 0, 2};
        for (int n = 1; n <= 10; n++) {
            int many = n;
            Edges.Made gone = Edges.town("walker 24 0").then(x -> x.days(many));
            e.does("DAYS " + n + ": SHAME", Edges.town("walker 24 0"), x -> x.days(many), 0);
            e.asked("DAYS " + n + ": where he is, at the edge on the eighth", gone, x -> x.walkerOf(0, 0), at[n - 1]);
            e.asked("DAYS " + n + ": he FACES the WAY, if he goes or not", gone, x -> x.walkerOf(0, 1), faced[n - 1]);
        }
        WindowsLookedOut hemmed = Due.townOf("house 17;house 23;house 25;house 31;walker 24 0");
        for (int n = 1; n <= 10; n++) {
            hemmed.days(1);
            e.is("HOUSES all about, day " + n + ": he stays", hemmed.walkerOf(0, 0), 24);
            e.is("HOUSES all about, day " + n + ": he FACES the WAY", hemmed.walkerOf(0, 1), faced[n - 1]);
        }
        WindowsLookedOut five = Due.townOf("walker 24 0;walker 24 0;walker 24 0;walker 24 0;walker 24 0");
        five.days(1);
        int[] first = {25, 25, 23, 31, 31};
        for (int walker = 0; walker < 5; walker++) {
            e.is("five WALKERS draw by numbers: WALKER " + walker, five.walkerOf(walker, 0), first[walker]);
        }
        five.days(1);
        int[] second = {32, 26, 30, 24, 32};
        int[] draws = {3, 2, 3, 0, 2};
        for (int walker = 0; walker < 5; walker++) {
            e.is("and again: WALKER " + walker, five.walkerOf(walker, 0), second[walker]);
            e.is("and again: WALKER " + walker + " FACES", five.walkerOf(walker, 1), draws[walker]);
        }
    }

    /** To the east are two panes, to the north is one; on ten days he faces east thrice, north once. */
    private static void daysOfShame() {
        Edges e = new Edges("promise 33, days");
        String town = "house 17;house 23;house 25;house 31;pane 0 0 25 1;pane 4 0 25 1;pane 6 0 17 3;walker 24 0";
        int[] shame = {2, 4, 4, 4, 4, 4, 6, 6, 7, 9};
        int[] tried = {1, 2, 2, 2, 2, 2, 3, 3, 4, 5};
        for (int n = 1; n <= 10; n++) {
            int many = n;
            Edges.Made gone = Edges.town(town).then(x -> x.days(many));
            e.does("DAYS " + n + ": SHAME of the town", Edges.town(town), x -> x.days(many), shame[n - 1]);
            e.asked("DAYS " + n + ": SHAME", gone, x -> x.status(5), shame[n - 1]);
            e.asked("DAYS " + n + ": TRIED, 1 a day with SHAME", gone, x -> x.walkerOf(0, 2), tried[n - 1]);
        }
        Edges.Made two = Edges.town(town + ";walker 0 0");
        e.does("a WALKER without SHAME beside him", two, x -> x.days(1), 2);
        e.asked("a WALKER without SHAME is not TRIED", two.then(x -> x.days(1)), x -> x.walkerOf(1, 2), 0);
        e.asked("TRIED together", two.then(x -> x.days(1)), x -> x.status(6), 1);
        WindowsLookedOut once = Due.townOf(town);
        WindowsLookedOut byOne = Due.townOf(town);
        once.days(60);
        for (int i = 0; i < 60; i++) {
            byOne.days(1);
        }
        for (int what = 4; what < 8; what++) {
            e.is("60 DAYS at once are 60 times one: status(" + what + ")", once.status(what), byOne.status(what));
        }
        e.does("it is counted where he has come", Edges.town("house 27;pane 0 0 27 1;walker 24 0"), x -> x.days(1), 1);
        e.does("it is not counted where he was", Edges.town("house 17;pane 0 0 17 3;walker 24 0"), x -> x.days(1), 0);
    }

    /** From these SEEDS the next is this; its upper 16 bits, no sign, modulo 4 are the WAY. */
    private static void draws() {
        Edges e = new Edges("==== 3., a DRAW");
        int[][] due = {
            {1, 1103527590, 2}, {0, 12345, 0}, {-59267453, 0, 0}, {-115164386, 65535, 0}, {-404969853, 65536, 1},
            {-460866786, 131071, 1}, {-750672253, 131072, 2}, {-1152271586, 262143, 3}, {-1916945634, MAX, 3},
            {2088216195, MIN, 0}, {1686616862, -2147352577, 1}, {1323542147, -262144, 0}, {-895905529, -191948, 1},
            {632137347, -131072, 2}, {230538014, -1, 3},
        };
        for (int[] one : due) {
            WindowsLookedOut x = Due.townOf("walker 24 0");
            x.seed(one[0]);
            x.days(1);
            e.is("SEED " + one[0] + " becomes", x.status(7), one[1]);
            e.is("SEED " + one[0] + ": the WAY drawn", x.walkerOf(0, 1), one[2]);
        }
        WindowsLookedOut two = Due.townOf("walker 24 0;walker 24 0");
        two.days(1);
        e.is("two WALKERS, two DRAWS", two.status(7), -1770082073);
        WindowsLookedOut refused = new WindowsLookedOut();
        refused.days(1);
        e.is("refused: no DRAW", refused.status(7), 1);
    }

    private static void seed() {
        Edges e = new Edges("promise 34, seed");
        e.does("it is 1 at first", x -> x.seed(5), 1);
        for (int v : new int[] {0, 1, -1, MIN, MAX}) {
            e.does("v " + v + ": what it was", x -> x.seed(v), 1);
            e.asked("v " + v + ": it becomes that", x -> x.seed(v), x -> x.status(7), v);
            e.does("what it was: v " + v, x -> x.seed(v), x -> x.seed(7), v);
        }
    }
}
