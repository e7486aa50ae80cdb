/**
 * The edges of one promise, each a case with a name of its own on an object of its own. A call that is refused,
 * or that only asks, must leave all that can be told as it was; of the refused one more is counted.
 * A case makes fewer than 512 calls, for behind them the document promises nothing.
 */
final class Edges {
    interface Call {
        long of(WindowsLookedOut x);
    }

    interface Doing {
        void to(WindowsLookedOut x);
    }

    /** Makes each case its own object. */
    interface Made {
        WindowsLookedOut town();

        default Made then(Doing doing) {
            return () -> {
                WindowsLookedOut x = town();
                doing.to(x);
                return x;
            };
        }
    }

    /** Nothing but what the constructor makes. */
    static final Made BARE = WindowsLookedOut::new;
    static final Made ORDINARY = Edges::ordinary;

    private static final int STATUSES = 18;

    private static int cases = 0;
    private static int wrong = 0;

    private final String promise;

    Edges(String promise) {
        this.promise = promise;
    }

    static void end(String name) {
        System.out.println(name + ": " + cases + " cases, " + wrong + " not as due");
        if (wrong != 0) {
            System.exit(1);
        }
    }

    /**
     * House 10 with a bay to the south, house 21 with a plain pane to the east and house 48; walkers at 24, who
     * looks in at pane 0, and at 5. Shelf 0 holds a walk, 1 squares, 2 longs, 3 pane 0, 5 a text with a fault at
     * 5, 6 no elements; 4 and 7 nothing. Refused was that text; the trace is of pane 0, shining.
     */
    static WindowsLookedOut ordinary() {
        WindowsLookedOut x = new WindowsLookedOut();
        x.house(10, true);
        x.house(21, true);
        x.house(48, true);
        x.pane(0, 2, 21, 2);
        x.pane(4, 3, 10, 3);
        x.walker(24, 1);
        x.walker(5, 0);
        x.row(0, 0, 3);
        x.set(0, 0, 2);
        x.set(0, 1, 3);
        x.set(0, 2, 1);
        Due.ints(x, 1, 22, 17);
        x.row(2, 3, 2);
        x.set(2, 1, (1L << 32) + 23);
        x.show(3, 0);
        Due.letters(x, 5, "yard x");
        x.town(5);
        x.row(6, 2, 0);
        x.act(0, 2, 5);
        return x;
    }

    static Made town(String text) {
        return () -> Due.townOf(text);
    }

    /** The call is refused in an ordinary town. */
    void refused(String edge, Call call, long want) {
        refused(edge, ORDINARY, call, want);
    }

    /** The call is refused in an ordinary town to which something was done. */
    void refused(String edge, Doing doing, Call call, long want) {
        refused(edge, ORDINARY.then(doing), call, want);
    }

    /** The call is refused: the number is answered and counted, and nothing else changes. */
    void refused(String edge, Made made, Call call, long want) {
        WindowsLookedOut x = made.town();
        long[] due = told(x);
        long got = call.of(x);
        int counted = (int) (want < -10 ? -want : 10 - want);
        due[counted]++;
        is(edge, got, want);
        same(edge, told(x), due);
    }

    /** The call only asks in an ordinary town. */
    void asked(String edge, Call call, long want) {
        asked(edge, ORDINARY, call, want);
    }

    /** The call only asks in an ordinary town to which something was done. */
    void asked(String edge, Doing doing, Call call, long want) {
        asked(edge, ORDINARY.then(doing), call, want);
    }

    /** The call only asks: nothing changes, no refusal is counted, and asked again it answers the same. */
    void asked(String edge, Made made, Call call, long want) {
        WindowsLookedOut x = made.town();
        long[] due = told(x);
        is(edge, call.of(x), want);
        is(edge + ", asked again", call.of(x), want);
        same(edge, told(x), due);
    }

    /** The call does something in an ordinary town. */
    void does(String edge, Call call, long want) {
        does(edge, ORDINARY, call, want);
    }

    /** The call does something in an ordinary town to which something was done. */
    void does(String edge, Doing doing, Call call, long want) {
        does(edge, ORDINARY.then(doing), call, want);
    }

    /** The call does what it is told: no refusal is counted. */
    void does(String edge, Made made, Call call, long want) {
        WindowsLookedOut x = made.town();
        long[] ahead = told(x);
        is(edge, call.of(x), want);
        for (int what = 11; what < STATUSES; what++) {
            is(edge + ": refusals told by status(" + what + ")", x.status(what), ahead[what]);
        }
    }

    /** A text is no TOWN: of what is told the FAULT alone changes, and one more -6 is counted. */
    void fault(String text, int due) {
        fault(ORDINARY, text, due);
    }

    void fault(Made made, String text, int due) {
        WindowsLookedOut x = made.town();
        Due.letters(x, 7, text);
        long[] told = told(x);
        told[16]++;
        told[STATUSES] = due;
        is("<" + text + "> is no TOWN", x.town(7), -6);
        is("<" + text + ">: the FAULT", x.fault(), due);
        same("<" + text + ">", told(x), told);
    }

    /** A text is a TOWN of so many ITEMS; there is no FAULT. */
    WindowsLookedOut reads(String text, int items) {
        return reads(ORDINARY, text, items);
    }

    WindowsLookedOut reads(Made made, String text, int items) {
        WindowsLookedOut x = made.town();
        Due.letters(x, 7, text);
        does("<" + text + "> is a TOWN", () -> x, y -> y.town(7), items);
        is("<" + text + ">: no FAULT", x.fault(), WindowsLookedOut.NONE);
        return x;
    }

    void is(String edge, long got, long want) {
        cases++;
        if (got != want) {
            wrong++;
            System.out.println(promise + ": " + edge + ": answered " + got + ", due is " + want);
        }
    }

    private void same(String edge, long[] got, long[] due) {
        for (int i = 0; i < due.length; i++) {
            if (got[i] != due[i]) {
                is(edge + ": what is told of it all, at " + i, got[i], due[i]);
            }
        }
    }

    /** All that an object tells of itself, the statuses first. */
    private static long[] told(WindowsLookedOut x) {
        long[] told = new long[250];
        int n = 0;
        for (int what = 0; what < STATUSES; what++) {
            told[n++] = what == 9 || what == 10 ? 0 : x.status(what);
        }
        told[n++] = x.fault();
        for (int i = 0; i <= x.status(8) && i < 10; i++) {
            told[n++] = x.trace(i);
        }
        for (int square = 0; square < 49; square++) {
            told[n++] = x.seen(square, 1);
        }
        for (int pane = 0; pane < told[0]; pane++) {
            long kindAndA = x.paneOf(pane, 0) * 10L + x.paneOf(pane, 1);
            told[n++] = (kindAndA * 49 + x.paneOf(pane, 2)) * 4 + x.paneOf(pane, 3);
        }
        for (int walker = 0; walker < told[1]; walker++) {
            told[n++] = (x.walkerOf(walker, 0) * 4L + x.walkerOf(walker, 1)) * 1000 + x.walkerOf(walker, 2);
        }
        for (int s = 0; s < 8; s++) {
            long held = x.holds(s);
            told[n++] = held;
            for (int i = 0; held >= 100 && i < 6; i++) {
                told[n++] = x.element(s, i);
            }
        }
        return told;
    }
}
