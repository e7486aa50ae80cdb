/** The edges of promises 1 to 8, case by case. */
public final class EdgesOfShelvesTest {
    private static final int MIN = Integer.MIN_VALUE;
    private static final int MAX = Integer.MAX_VALUE;
    private static final int NONE = WindowsLookedOut.NONE;

    public static void main(String[] args) {
        newObject();
        row();
        rowOverWhatThereIs();
        set();
        setWraps();
        copy();
        copyEnds();
        copyAsTheyWereAhead();
        element();
        show();
        holds();
        says();
        saysByKinds();
        Edges.end("EdgesOfShelvesTest");
    }

    private static void newObject() {
        Edges e = new Edges("promise 1, a new object");
        WindowsLookedOut x = new WindowsLookedOut();
        for (int square = 0; square < 49; square++) {
            e.is("no HOUSE at " + square, x.seen(square, 1), 0);
        }
        int[] statuses = {0, 0, 0, 4, 0, 0, 0, 1, 0, NONE, NONE, 0, 0, 0, 0, 0, 0, 0};
        for (int what = 0; what < statuses.length; what++) {
            e.is("status(" + what + ")", x.status(what), statuses[what]);
        }
        for (int s = 0; s < 8; s++) {
            e.is("SHELF " + s + " holds NOTHING", x.holds(s), NONE);
        }
        e.is("there is no FAULT yet", x.fault(), NONE);
        e.is("there is no TRACE yet", x.trace(0), NONE);
        e.refused("there is no PANE 0", Edges.BARE, y -> y.paneOf(0, 0), -5);
        e.refused("there is no WALKER 0", Edges.BARE, y -> y.walkerOf(0, 0), -5);
        e.refused("there is no IMAGE", Edges.BARE, WindowsLookedOut::restore, -6);
        WindowsLookedOut other = Edges.ordinary();
        e.is("what is done to one object is not done to another", new WindowsLookedOut().status(2), 0);
        e.is("what is done to one object stays", other.status(2), 3);
    }

    private static void row() {
        Edges e = new Edges("promise 2, row");
        e.refused("s -1 is no SHELF", x -> x.row(-1, 0, 1), -1);
        e.refused("s 8 is no SHELF", x -> x.row(8, 0, 1), -1);
        e.refused("s MIN is no SHELF", x -> x.row(MIN, 0, 1), -1);
        e.refused("s MAX is no SHELF", x -> x.row(MAX, 0, 1), -1);
        e.does("s 0 is the first SHELF", x -> x.row(0, 0, 1), 1);
        e.does("s 7 is the last SHELF", x -> x.row(7, 0, 1), 1);
        e.refused("n -1 is below 0", x -> x.row(0, 0, -1), -4);
        e.refused("n MIN is below 0", x -> x.row(0, 0, MIN), -4);
        e.does("n 0: empty", x -> x.row(0, 0, 0), 1);
        e.does("n 160: full", x -> x.row(0, 0, 160), 1);
        e.refused("n 161 is more than may be", x -> x.row(0, 0, 161), -7);
        e.refused("n MAX is more than may be", x -> x.row(0, 0, MAX), -7);
        e.refused("n 161 of longs is more than may be", x -> x.row(0, 3, 161), -7);
        e.refused("sort -1 is none", x -> x.row(0, -1, 1), -6);
        e.refused("sort 4 is none", x -> x.row(0, 4, 1), -6);
        e.refused("sort MIN is none", x -> x.row(0, MIN, 1), -6);
        e.refused("sort MAX is none", x -> x.row(0, MAX, 1), -6);
        e.does("sort 0 is the first", x -> x.row(0, 0, 1), 1);
        e.does("sort 3 is the last", x -> x.row(0, 3, 1), 1);
        e.refused("-1 ahead of -4", x -> x.row(8, 0, -1), -1);
        e.refused("-1 ahead of -6", x -> x.row(8, 4, 1), -1);
        e.refused("-1 ahead of -7", x -> x.row(8, 0, 161), -1);
        e.refused("-4 ahead of -6", x -> x.row(0, 4, -1), -4);
        e.refused("-6 ahead of -7", x -> x.row(0, 4, 161), -6);
    }

    private static void rowOverWhatThereIs() {
        Edges e = new Edges("promise 2, row");
        for (int sort = 0; sort < 4; sort++) {
            int one = sort;
            e.asked("a ROW of sort " + sort + " over a ROW", x -> x.row(0, one, 2), x -> x.holds(0), 100 + sort);
            e.asked("a ROW of sort " + sort + " over a PANE", x -> x.row(3, one, 2), x -> x.holds(3), 100 + sort);
        }
        e.asked("its elements are 0 at first, over a ROW", x -> x.row(0, 0, 3), x -> x.element(0, 0), 0);
        e.asked("its last element is 0 at first, too", x -> x.row(0, 0, 3), x -> x.element(0, 2), 0);
        e.asked("of an empty one nothing comes back", x -> {
            x.row(0, 0, 0);
            x.row(0, 0, 3);
        }, x -> x.element(0, 0), 0);
        e.does("element 159 of 160 is there", x -> x.row(0, 0, 160), x -> x.set(0, 159, 1), 1);
        e.refused("element 160 of 160 is not", x -> x.row(0, 0, 160), x -> x.set(0, 160, 1), -5);
        e.refused("an empty ROW has no element 0", x -> x.row(0, 0, 0), x -> x.set(0, 0, 1), -5);
        e.asked("another SHELF stays as it is", x -> x.row(0, 0, 3), x -> x.element(1, 0), 22);
    }

    private static void set() {
        Edges e = new Edges("promise 3, set");
        e.refused("s -1 is no SHELF", x -> x.set(-1, 0, 1), -1);
        e.refused("s 8 is no SHELF", x -> x.set(8, 0, 1), -1);
        e.refused("s MIN is no SHELF", x -> x.set(MIN, 0, 1), -1);
        e.refused("s MAX is no SHELF", x -> x.set(MAX, 0, 1), -1);
        e.refused("a PANE is no ROW", x -> x.set(3, 0, 1), -2);
        e.refused("NOTHING is there", x -> x.set(4, 0, 1), -3);
        e.refused("i -1 isn't there", x -> x.set(0, -1, 1), -5);
        e.refused("i 3 of 3 isn't there", x -> x.set(0, 3, 1), -5);
        e.refused("i MIN isn't there", x -> x.set(0, MIN, 1), -5);
        e.refused("i MAX isn't there", x -> x.set(0, MAX, 1), -5);
        e.refused("i 0 of an empty ROW isn't there", x -> x.set(6, 0, 1), -5);
        e.refused("-1 ahead of -5", x -> x.set(8, -1, 1), -1);
        e.refused("-2 ahead of -5", x -> x.set(3, -1, 1), -2);
        e.refused("-3 ahead of -5", x -> x.set(4, -1, 1), -3);
        e.does("i 0 is the first", x -> x.set(0, 0, 7), 1);
        e.does("i 2 of 3 is the last", x -> x.set(0, 2, 7), 1);
        e.asked("the element becomes v", x -> x.set(0, 2, 7), x -> x.element(0, 2), 7);
        e.asked("the one beside stays", x -> x.set(0, 2, 7), x -> x.element(0, 1), 3);
        e.does("s 7 is the last SHELF", x -> x.row(7, 0, 1), x -> x.set(7, 0, 1), 1);
    }

    /** What is put in keeps its lowest bits: 8, 16, 32, 64 of them, the highest the sign. */
    private static void setWraps() {
        Edges e = new Edges("promise 3, set");
        long[][] kept = {
            {0, 127, 127}, {0, 128, -128}, {0, 255, -1}, {0, 256, 0}, {0, -128, -128}, {0, -129, 127},
            {0, Long.MAX_VALUE, -1}, {0, Long.MIN_VALUE, 0},
            {1, 32767, 32767}, {1, 32768, -32768}, {1, 65535, -1}, {1, 65536, 0}, {1, -32768, -32768},
            {1, -32769, 32767},
            {1, Long.MAX_VALUE, -1}, {1, Long.MIN_VALUE, 0},
            {2, MAX, MAX}, {2, MAX + 1L, MIN}, {2, (1L << 32) - 1, -1}, {2, 1L << 32, 0}, {2, MIN, MIN},
            {2, MIN - 1L, MAX},
            {2, Long.MAX_VALUE, -1}, {2, Long.MIN_VALUE, 0},
            {3, 1L << 32, 1L << 32}, {3, Long.MAX_VALUE, Long.MAX_VALUE}, {3, Long.MIN_VALUE, Long.MIN_VALUE},
        };
        for (long[] one : kept) {
            e.asked("sort " + one[0] + " keeps of " + one[1], x -> {
                x.row(0, (int) one[0], 1);
                x.set(0, 0, one[1]);
            }, x -> x.element(0, 0), one[2]);
        }
    }

    private static void copy() {
        Edges e = new Edges("promise 4, copy");
        e.refused("p -1 is no SHELF", x -> x.copy(-1, 0, 0, 0, 1), -1);
        e.refused("p 8 is no SHELF", x -> x.copy(8, 0, 0, 0, 1), -1);
        e.refused("q -1 is no SHELF", x -> x.copy(0, -1, 0, 0, 1), -1);
        e.refused("q 8 is no SHELF", x -> x.copy(0, 8, 0, 0, 1), -1);
        e.refused("p MIN, q MAX are no SHELVES", x -> x.copy(MIN, MAX, 0, 0, 1), -1);
        e.refused("p holds a PANE", x -> x.copy(3, 0, 0, 0, 1), -2);
        e.refused("q holds a PANE", x -> x.copy(0, 3, 0, 0, 1), -2);
        e.refused("both hold a PANE", x -> x.copy(3, 3, 0, 0, 1), -2);
        e.refused("p holds a PANE, q NOTHING", x -> x.copy(3, 4, 0, 0, 1), -2);
        e.refused("p holds NOTHING, q a PANE", x -> x.copy(4, 3, 0, 0, 1), -2);
        e.refused("bytes and ints are two SORTS", x -> x.copy(0, 1, 0, 0, 1), -2);
        e.refused("longs and ints are two SORTS", x -> x.copy(2, 1, 0, 0, 1), -2);
        e.refused("two SORTS for no elements, too", x -> x.copy(0, 1, 0, 0, 0), -2);
        e.refused("p holds NOTHING", x -> x.copy(4, 0, 0, 0, 1), -3);
        e.refused("q holds NOTHING", x -> x.copy(0, 4, 0, 0, 1), -3);
        e.refused("both hold NOTHING", x -> x.copy(4, 7, 0, 0, 1), -3);
        e.refused("n -1 is below 0", x -> x.copy(0, 5, 0, 0, -1), -4);
        e.refused("n MIN is below 0", x -> x.copy(0, 5, 0, 0, MIN), -4);
        e.refused("-1 ahead of -2", x -> x.copy(8, 3, 0, 0, 1), -1);
        e.refused("-1 ahead of -3", x -> x.copy(4, 8, 0, 0, 1), -1);
        e.refused("-1 ahead of -4", x -> x.copy(8, 0, 0, 0, -1), -1);
        e.refused("-1 ahead of -5", x -> x.copy(0, 8, -1, 0, 1), -1);
        e.refused("-2 ahead of -4", x -> x.copy(0, 1, 0, 0, -1), -2);
        e.refused("-2 ahead of -5", x -> x.copy(0, 3, -1, 0, 1), -2);
        e.refused("-3 ahead of -4", x -> x.copy(0, 4, 0, 0, -1), -3);
        e.refused("-3 ahead of -5", x -> x.copy(4, 0, -1, 0, 1), -3);
        e.refused("-4 ahead of -5", x -> x.copy(0, 5, -1, 0, -1), -4);
    }

    /** Shelf 0 has 3 bytes, 5 has 6. */
    private static void copyEnds() {
        Edges e = new Edges("promise 4, copy");
        e.refused("i -1 is below 0", x -> x.copy(0, 5, -1, 0, 1), -5);
        e.refused("j -1 is below 0", x -> x.copy(0, 5, 0, -1, 1), -5);
        e.refused("i -1 is below 0 for no elements, too", x -> x.copy(0, 5, -1, 0, 0), -5);
        e.refused("j -1 is below 0 for no elements, too", x -> x.copy(0, 5, 0, -1, 0), -5);
        e.refused("i MIN is below 0", x -> x.copy(0, 5, MIN, 0, 1), -5);
        e.refused("j MIN is below 0", x -> x.copy(0, 5, 0, MIN, 1), -5);
        e.refused("the end of 4 in 3 isn't there", x -> x.copy(0, 5, 0, 0, 4), -5);
        e.refused("the end of 3 from the second of 3 isn't there", x -> x.copy(0, 5, 1, 0, 3), -5);
        e.refused("the end of 4 in 3 isn't there, where it goes", x -> x.copy(5, 0, 0, 0, 4), -5);
        e.refused("the end of 3 to the second of 3 isn't there", x -> x.copy(5, 0, 0, 1, 3), -5);
        e.refused("i 4 of 3 isn't there for no elements", x -> x.copy(0, 5, 4, 0, 0), -5);
        e.refused("j 4 of 3 isn't there for no elements", x -> x.copy(5, 0, 0, 4, 0), -5);
        e.refused("i 3 of 3 isn't there for one", x -> x.copy(0, 5, 3, 0, 1), -5);
        e.refused("i and n together wrap", x -> x.copy(0, 5, MAX, 0, MAX), -5);
        e.refused("i 1 and n MAX wrap", x -> x.copy(0, 5, 1, 0, MAX), -5);
        e.refused("j 1 and n MAX wrap", x -> x.copy(5, 0, 0, 1, MAX), -5);
        e.refused("i MAX and n 1 wrap", x -> x.copy(0, 5, MAX, 0, 1), -5);
        e.refused("j MAX and n 1 wrap", x -> x.copy(0, 5, 0, MAX, 1), -5);
        e.refused("one from an empty ROW", x -> x.copy(6, 1, 0, 0, 1), -5);
        e.refused("one to an empty ROW", x -> x.copy(1, 6, 0, 0, 1), -5);
        e.does("none from an empty ROW", x -> x.copy(6, 1, 0, 0, 0), 1);
        e.does("none to an empty ROW", x -> x.copy(1, 6, 2, 0, 0), 1);
        e.does("none from behind the last to behind the last", x -> x.copy(0, 5, 3, 6, 0), 1);
        e.does("all of it", x -> x.copy(0, 5, 0, 0, 3), 1);
        e.does("the last to the last", x -> x.copy(0, 5, 2, 5, 1), 1);
        e.asked("none: nothing comes", x -> x.copy(0, 5, 0, 0, 0), x -> x.element(5, 0), 'y');
        e.asked("all of it: the last comes", x -> x.copy(0, 5, 0, 3, 3), x -> x.element(5, 5), 1);
        e.asked("all of it: the one ahead stays", x -> x.copy(0, 5, 0, 3, 3), x -> x.element(5, 2), 'r');
        e.asked("the first two: the one behind stays", x -> x.copy(0, 5, 0, 0, 2), x -> x.element(5, 2), 'r');
        e.asked("longs come whole", x -> x.copy(2, 2, 1, 0, 1), x -> x.element(2, 0), (1L << 32) + 23);
        Edges.Made full = Edges.BARE.then(x -> {
            x.row(0, 2, 160);
            x.row(1, 2, 160);
            x.set(0, 159, 9);
        });
        e.refused("161 of 160 aren't there", full, x -> x.copy(0, 1, 0, 0, 161), -5);
        e.does("160 of 160", full, x -> x.copy(0, 1, 0, 0, 160), 1);
        e.asked("160 of 160: the last comes", full.then(x -> x.copy(0, 1, 0, 0, 160)), x -> x.element(1, 159), 9);
    }

    /** Of the text "yard x" in shelf 5, within itself. */
    private static void copyAsTheyWereAhead() {
        Edges e = new Edges("promise 4, copy, as they were ahead");
        String[] due = {"yyard ", "ard xx", "yard x", "yayard"};
        int[][] calls = {{0, 1, 5}, {1, 0, 5}, {0, 0, 6}, {0, 2, 4}};
        for (int c = 0; c < calls.length; c++) {
            int[] one = calls[c];
            for (int i = 0; i < 6; i++) {
                int at = i;
                e.asked("from " + one[0] + " to " + one[1] + ", element " + i,
                    x -> x.copy(5, 5, one[0], one[1], one[2]), x -> x.element(5, at), due[c].charAt(i));
            }
        }
    }

    private static void element() {
        Edges e = new Edges("promise 5, element");
        int[][] none = {{-1, 0}, {8, 0}, {MIN, 0}, {MAX, 0}, {3, 0}, {4, 0}, {6, 0}, {0, -1}, {0, 3}, {0, MIN},
            {0, MAX}, {0, 159}, {0, 160}};
        for (int[] one : none) {
            e.asked("SHELF " + one[0] + " has no element " + one[1] + ": 0, nothing is refused",
                x -> x.element(one[0], one[1]), 0);
        }
        e.asked("the first", x -> x.element(0, 0), 2);
        e.asked("the last", x -> x.element(0, 2), 1);
        e.asked("of longs the whole", x -> x.element(2, 1), (1L << 32) + 23);
        e.asked("a PANE over a ROW: 0", x -> x.show(0, 0), x -> x.element(0, 0), 0);
        e.asked("NOTHING over a ROW: 0", x -> x.show(0, NONE), x -> x.element(0, 0), 0);
        e.asked("a shorter ROW over a ROW: 0", x -> x.row(0, 0, 2), x -> x.element(0, 2), 0);
    }

    private static void show() {
        Edges e = new Edges("promise 6, show");
        e.refused("s -1 is no SHELF", x -> x.show(-1, 0), -1);
        e.refused("s 8 is no SHELF", x -> x.show(8, 0), -1);
        e.refused("s 8 is no SHELF for NOTHING, too", x -> x.show(8, NONE), -1);
        e.refused("s MIN is no SHELF", x -> x.show(MIN, 0), -1);
        e.refused("s MAX is no SHELF", x -> x.show(MAX, 0), -1);
        e.refused("PANE 2 of 2 isn't there", x -> x.show(0, 2), -1);
        e.refused("PANE -2 isn't there", x -> x.show(0, -2), -1);
        e.refused("PANE MIN isn't there", x -> x.show(0, MIN), -1);
        e.refused("PANE MAX isn't there", x -> x.show(0, MAX), -1);
        e.refused("there are no PANES", Edges.BARE, x -> x.show(0, 0), -1);
        e.does("there are no PANES, but NOTHING can be shown", Edges.BARE, x -> x.show(0, NONE), 0);
        e.does("the first PANE", x -> x.show(0, 0), 1);
        e.does("the last PANE", x -> x.show(7, 1), 1);
        e.does("NOTHING over NOTHING", x -> x.show(4, NONE), 0);
        e.asked("a PANE over a ROW", x -> x.show(0, 1), x -> x.holds(0), 1);
        e.asked("a PANE over a PANE", x -> x.show(3, 1), x -> x.holds(3), 1);
        e.asked("NOTHING over a ROW", x -> x.show(0, NONE), x -> x.holds(0), NONE);
        e.asked("NOTHING over a PANE", x -> x.show(3, NONE), x -> x.holds(3), NONE);
        e.asked("a PANE in two SHELVES", x -> x.show(0, 0), x -> x.holds(3), 0);
    }

    private static void holds() {
        Edges e = new Edges("promise 7, holds");
        e.asked("s -1 is no SHELF: NONE, nothing is refused", x -> x.holds(-1), NONE);
        e.asked("s 8 is no SHELF: NONE, nothing is refused", x -> x.holds(8), NONE);
        e.asked("s MIN is no SHELF: NONE, nothing is refused", x -> x.holds(MIN), NONE);
        e.asked("s MAX is no SHELF: NONE, nothing is refused", x -> x.holds(MAX), NONE);
        e.asked("NOTHING: NONE", x -> x.holds(4), NONE);
        e.asked("NOTHING in the last SHELF: NONE", x -> x.holds(7), NONE);
        e.asked("PANE 0: its number", x -> x.holds(3), 0);
        e.asked("bytes: 100", x -> x.holds(0), 100);
        e.asked("shorts: 101", x -> x.row(0, 1, 1), x -> x.holds(0), 101);
        e.asked("ints: 102", x -> x.holds(1), 102);
        e.asked("longs: 103", x -> x.holds(2), 103);
        e.asked("an empty ROW is one, too", x -> x.holds(6), 102);
        e.asked("PANE 8, the last there may be", x -> {
            for (int pane = 2; pane < 9; pane++) {
                x.pane(0, 0, 10, 0);
            }
            x.show(0, 8);
        }, x -> x.holds(0), 8);
    }

    private static void says() {
        Edges e = new Edges("promise 8, says");
        e.refused("s -1 is no SHELF", x -> x.says(-1, 0), -1);
        e.refused("s 8 is no SHELF", x -> x.says(8, 0), -1);
        e.refused("s MIN is no SHELF", x -> x.says(MIN, 0), -1);
        e.refused("s MAX is no SHELF", x -> x.says(MAX, 0), -1);
        e.refused("KIND -1 is none", x -> x.says(3, -1), -1);
        e.refused("KIND 7 is none", x -> x.says(3, 7), -1);
        e.refused("KIND MIN is none", x -> x.says(3, MIN), -1);
        e.refused("KIND MAX is none", x -> x.says(3, MAX), -1);
        e.refused("a ROW is no PANE", x -> x.says(0, 0), -2);
        e.refused("an empty ROW is no PANE", x -> x.says(6, 0), -2);
        e.refused("NOTHING is there", x -> x.says(4, 0), -3);
        e.refused("NOTHING is there for KIND 6, too", x -> x.says(4, 6), -3);
        e.refused("-1 ahead of -2", x -> x.says(0, 7), -1);
        e.refused("-1 ahead of -3", x -> x.says(4, 7), -1);
        e.refused("a PANE is no MIRROR", x -> x.says(3, 1), -2);
        e.asked("PANE: where it is AT", x -> x.says(3, 0), 21);
    }

    /** Of each kind a pane, its a 3 and its kind, at 21 to the east, where it sees 4 squares, a bay 8, an attic 10. */
    private static void saysByKinds() {
        Edges e = new Edges("promise 8, says");
        int no = -2;
        int[][] due = {
            {21, no, no, no, no, no, no},
            {21, 2, no, no, no, no, no},
            {21, no, 5, no, no, no, no},
            {21, 2, no, 2, no, no, no},
            {21, no, no, no, 8, no, no},
            {21, no, no, no, 10, 10, no},
            {21, no, 9, no, no, no, 9},
        };
        for (int kind = 0; kind < 7; kind++) {
            for (int taken = 0; taken < 7; taken++) {
                int one = kind;
                int other = taken;
                Edges.Doing shown = x -> {
                    x.pane(one, one + 3, 21, 2);
                    x.show(3, 2);
                };
                String edge = "KIND " + kind + " taken for KIND " + taken;
                if (due[kind][taken] == no) {
                    e.refused(edge, shown, x -> x.says(3, other), no);
                } else {
                    e.asked(edge, shown, x -> x.says(3, other), due[kind][taken]);
                }
            }
        }
        e.asked("a BAY that SEES nothing: 0", x -> {
            x.pane(4, 0, 10, 3);
            x.house(17, true);
            x.show(3, 2);
        }, x -> x.says(3, 4), 0);
    }
}
