/** The edges of promises 16 and 17: towns read from texts into the ordinary town of Edges. */
public final class EdgesOfTownsTest {
    private static final int MIN = Integer.MIN_VALUE;
    private static final int MAX = Integer.MAX_VALUE;
    private static final int NONE = WindowsLookedOut.NONE;
    private static final Edges TOWN = new Edges("promise 16, town");
    private static final Edges FAULT = new Edges("promise 17, fault");

    public static void main(String[] args) {
        shelves();
        endsTooEarly();
        otherLetters();
        blanksAndSemicolons();
        numbers();
        squares();
        kindsAndWays();
        reach();
        nobodyAndNoPane();
        itemsInTheirOrder();
        roomForPanes();
        roomForWalkers();
        fullRows();
        allOrNothing();
        elements();
        faultOfTheLatest();
        Edges.end("EdgesOfTownsTest");
    }

    private static void shelves() {
        for (int s : new int[] {-1, 8, MIN, MAX}) {
            TOWN.refused("s " + s + " is no SHELF", x -> x.town(s), -1);
        }
        TOWN.refused("a PANE is no ROW", x -> x.town(3), -2);
        TOWN.refused("NOTHING is there", x -> x.town(4), -3);
        TOWN.fault("", 0);
        TOWN.refused("s 8, NOTHING anywhere", Edges.BARE, x -> x.town(8), -1);
        TOWN.refused("s 0, NOTHING anywhere", Edges.BARE, x -> x.town(0), -3);
    }

    /** Cut off anywhere but behind an item, a text ends too early: the FAULT is the number of its elements. */
    private static void endsTooEarly() {
        String[] words = {"house 8", "yard 8", "pane 6 9 8 3", "walker 8 3", "reach 6"};
        for (String item : words) {
            for (int n = 0; n < item.length(); n++) {
                TOWN.fault(Edges.BARE.then(x -> x.house(8, item.startsWith("pane"))), item.substring(0, n), n);
            }
        }
        TOWN.fault("house 8;", 8);
        TOWN.fault("house 8;y", 9);
        TOWN.fault("house 8;yard", 12);
        TOWN.fault("house 8;yard ", 13);
        TOWN.reads("house 8;yard 8", 2);
    }

    /** Another letter anywhere is the FAULT where it stands. */
    private static void otherLetters() {
        String text = "house 8;yard 9;pane 6 9 8 3;walker 9 3;reach 6";
        TOWN.reads(Edges.BARE, text, 5);
        for (int n = 0; n < text.length(); n++) {
            TOWN.fault(Edges.BARE, text.substring(0, n) + 'x' + text.substring(n + 1), n);
        }
        for (int n = 0; n <= text.length(); n++) {
            TOWN.fault(Edges.BARE, text.substring(0, n) + 'x' + text.substring(n), n);
        }
        TOWN.fault("House 8", 0);
        TOWN.fault("hOuse 8", 1);
        TOWN.fault("PANE 0 0 21 0", 0);
        TOWN.fault("street 8", 0);
        TOWN.fault("houses 8", 5);
        TOWN.fault("reaches 8", 5);
    }

    private static void blanksAndSemicolons() {
        TOWN.fault(" house 8", 0);
        TOWN.fault("house  8", 6);
        TOWN.fault("house8", 5);
        TOWN.fault("house 8 ", 7);
        TOWN.fault("house 8 ;reach 2", 7);
        TOWN.fault("house 8; reach 2", 8);
        TOWN.fault("pane 0 0  21 0", 9);
        TOWN.fault("pane 0 0 21  0", 12);
        TOWN.fault("pane 0,0 21 0", 6);
        TOWN.fault("walker 8  3", 9);
        TOWN.fault("house\t8", 5);
        TOWN.fault("house\n8", 5);
        TOWN.fault(";", 0);
        TOWN.fault(";house 8", 0);
        TOWN.fault("house 8;;reach 2", 8);
        TOWN.fault("house 8;reach 2;", 16);
        TOWN.fault("house 8,reach 2", 7);
        TOWN.fault("house 8:reach 2", 7);
        TOWN.fault("pane 0 0 21;reach 2", 11);
        TOWN.fault("pane 0 0 21 ;reach 2", 12);
        TOWN.fault("house;reach 2", 5);
    }

    /** 1 to 2 digits. */
    private static void numbers() {
        TOWN.reads("house 8", 1);
        TOWN.reads("house 18", 1);
        TOWN.reads("house 08", 1);
        TOWN.reads("house 00", 1);
        TOWN.fault("house 008", 8);
        TOWN.fault("house 108", 8);
        TOWN.fault("house 111", 8);
        TOWN.fault("house 490", 6);
        TOWN.fault("house 999", 6);
        TOWN.fault("house -1", 6);
        TOWN.fault("house +1", 6);
        TOWN.fault("house /", 6);
        TOWN.fault("house :", 6);
        TOWN.fault("house 1/", 7);
        TOWN.fault("house 1:", 7);
        TOWN.fault("house a", 6);
        TOWN.fault("house 1a", 7);
        TOWN.fault("house 9a", 7);
        TOWN.fault("reach 7a", 6);
        TOWN.fault("reach 1 2", 7);
    }

    private static void squares() {
        TOWN.reads("house 0", 1);
        TOWN.reads("house 48", 1);
        TOWN.fault("house 49", 6);
        TOWN.fault("house 99", 6);
        TOWN.reads("yard 0", 1);
        TOWN.reads("yard 48", 1);
        TOWN.fault("yard 49", 5);
        TOWN.fault("yard 99", 5);
        TOWN.reads("pane 0 0 48 0", 1);
        TOWN.reads("house 0;pane 0 0 0 0", 2);
        TOWN.fault("pane 0 0 49 0", 9);
        TOWN.fault("pane 0 0 0 0", 9);
        TOWN.fault("pane 0 0 47 0", 9);
        TOWN.fault("pane 0 0 24 0", 9);
        TOWN.reads("walker 0 0", 1);
        TOWN.reads("yard 48;walker 48 0", 2);
        TOWN.fault("walker 48 0", 7);
        TOWN.fault("walker 49 0", 7);
        TOWN.fault("walker 21 0", 7);
    }

    private static void kindsAndWays() {
        TOWN.reads("pane 0 0 21 0", 1);
        TOWN.reads("pane 6 9 21 3", 1);
        TOWN.reads("pane 06 09 21 03", 1);
        TOWN.fault("pane 7 0 21 0", 5);
        TOWN.fault("pane 10 0 21 0", 5);
        TOWN.fault("pane 99 0 21 0", 5);
        TOWN.fault("pane 0 10 21 0", 7);
        TOWN.fault("pane 0 99 21 0", 7);
        TOWN.fault("pane 0 0 21 4", 12);
        TOWN.fault("pane 0 0 21 10", 12);
        TOWN.fault("pane 7 10 49 4", 5);
        TOWN.fault("pane 6 10 49 4", 7);
        TOWN.fault("pane 6 9 49 4", 9);
        TOWN.fault("pane 6 9 21 4", 12);
        TOWN.reads("walker 8 0", 1);
        TOWN.reads("walker 8 3", 1);
        TOWN.fault("walker 8 4", 9);
        TOWN.fault("walker 8 10", 9);
        TOWN.fault("walker 49 4", 7);
        WindowsLookedOut x = TOWN.reads("pane 6 9 21 3", 1);
        int[] due = {6, 9, 21, 3};
        for (int what = 0; what < 4; what++) {
            TOWN.is("pane K A C W, what " + what, x.paneOf(2, what), due[what]);
        }
        WindowsLookedOut y = TOWN.reads("walker 08 02", 1);
        TOWN.is("walker C W: C", y.walkerOf(2, 0), 8);
        TOWN.is("walker C W: W", y.walkerOf(2, 1), 2);
        TOWN.is("walker C W: TRIED", y.walkerOf(2, 2), 0);
    }

    private static void reach() {
        TOWN.is("reach 1", TOWN.reads("reach 1", 1).status(3), 1);
        TOWN.is("reach 6", TOWN.reads("reach 6", 1).status(3), 6);
        TOWN.is("reach 06", TOWN.reads("reach 06", 1).status(3), 6);
        TOWN.is("reach 2;reach 5: the latter", TOWN.reads("reach 2;reach 5", 2).status(3), 5);
        TOWN.fault("reach 0", 6);
        TOWN.fault("reach 00", 6);
        TOWN.fault("reach 7", 6);
        TOWN.fault("reach 10", 6);
        TOWN.fault("reach 60", 6);
    }

    private static void nobodyAndNoPane() {
        TOWN.fault("house 24", 6);
        TOWN.fault("house 5", 6);
        TOWN.fault("house 05", 6);
        TOWN.is("a PANE is at it: it stays a HOUSE", TOWN.reads("house 21", 1).seen(21, 1), 1);
        TOWN.fault("yard 21", 5);
        TOWN.fault("yard 10", 5);
        TOWN.is("a HOUSE without PANE", TOWN.reads("yard 48", 1).seen(48, 1), 0);
        TOWN.is("no HOUSE was there", TOWN.reads("yard 8", 1).seen(8, 1), 0);
        TOWN.is("somebody is there: it stays without HOUSE", TOWN.reads("yard 24", 1).seen(24, 1), 0);
        TOWN.is("somebody is there already: several may be at one", TOWN.reads("walker 24 1", 1).walkerOf(2, 0), 24);
    }

    /** Each item stands over those ahead of it. */
    private static void itemsInTheirOrder() {
        TOWN.reads("house 8;pane 0 0 8 0", 2);
        TOWN.fault("pane 0 0 8 0;house 8", 9);
        TOWN.fault("house 8;pane 0 0 8 0;yard 8", 26);
        TOWN.fault("house 8;walker 8 0", 15);
        TOWN.fault("walker 8 0;house 8", 17);
        TOWN.reads("house 8;yard 8;walker 8 0", 3);
        TOWN.fault("yard 48;pane 0 0 48 0", 17);
        TOWN.reads("yard 48;house 48;pane 0 0 48 0", 3);
        TOWN.is("PANES go on by numbers", TOWN.reads("pane 1 0 21 0;pane 2 0 21 0", 2).paneOf(3, 0), 2);
        TOWN.is("WALKERS go on by numbers", TOWN.reads("walker 8 0;walker 9 0", 2).walkerOf(3, 0), 9);
    }

    private static Edges.Made withPanes(int many) {
        return Edges.ORDINARY.then(x -> {
            while (x.status(0) < many) {
                x.pane(0, 0, 48, 0);
            }
        });
    }

    /** What there is no room for can't stand: its word, once that is whole; until then it is read as ever. */
    private static void roomForPanes() {
        TOWN.is("the ninth", TOWN.reads(withPanes(8), "pane 3 0 21 0", 1).paneOf(8, 0), 3);
        TOWN.fault(withPanes(8), "pane 3 0 21 0;pane 3 0 21 0", 14);
        TOWN.fault(withPanes(9), "pane 3 0 21 0", 0);
        TOWN.fault(withPanes(9), "pane 9 9 99 9", 0);
        TOWN.fault(withPanes(9), "panes", 0);
        TOWN.fault(withPanes(9), "pane", 0);
        TOWN.fault(withPanes(9), "pan", 3);
        TOWN.fault(withPanes(9), "p", 1);
        TOWN.fault(withPanes(9), "pant 0 0 21 0", 3);
        TOWN.fault(withPanes(9), "reach 2;pane", 8);
        TOWN.fault(withPanes(9), "reach 2;pan", 11);
        TOWN.fault(withPanes(8), "pane 9 0 21 0", 5);
        TOWN.reads(withPanes(9), "house 8;yard 8;walker 8 0;reach 2", 4);
        TOWN.fault(withPanes(9), "", 0);
    }

    private static Edges.Made withWalkers(int many) {
        return Edges.ORDINARY.then(x -> {
            while (x.status(1) < many) {
                x.walker(47, 0);
            }
        });
    }

    private static void roomForWalkers() {
        TOWN.is("the fifth", TOWN.reads(withWalkers(4), "walker 8 3", 1).walkerOf(4, 0), 8);
        TOWN.fault(withWalkers(4), "walker 8 3;walker 8 3", 11);
        TOWN.fault(withWalkers(5), "walker 8 3", 0);
        TOWN.fault(withWalkers(5), "walker 99 9", 0);
        TOWN.fault(withWalkers(5), "walkers", 0);
        TOWN.fault(withWalkers(5), "walker", 0);
        TOWN.fault(withWalkers(5), "walke", 5);
        TOWN.fault(withWalkers(5), "w", 1);
        TOWN.fault(withWalkers(5), "walked 8 3", 5);
        TOWN.fault(withWalkers(5), "reach 2;walker", 8);
        TOWN.fault(withWalkers(5), "reach 2;walke", 13);
        TOWN.reads(withWalkers(5), "house 8;pane 0 0 8 0;yard 9;reach 2", 4);
    }

    /** 160 elements are the most that a ROW may have. */
    private static void fullRows() {
        String nineteen = "";
        for (int i = 0; i < 19; i++) {
            nineteen += "reach 2;";
        }
        TOWN.is("159 elements, 20 items", TOWN.reads(Edges.BARE, nineteen + "reach 3", 20).status(3), 3);
        TOWN.is("160 elements, 20 items", TOWN.reads(Edges.BARE, nineteen + "reach 03", 20).status(3), 3);
        TOWN.fault(Edges.BARE, nineteen + "reach 3;", 160);
        TOWN.fault(Edges.BARE, nineteen + "reach 3x", 159);
        TOWN.fault(Edges.BARE, nineteen + "reach 7 ", 158);
        String yards = "";
        for (int i = 0; i < 22; i++) {
            yards += "yard 3;";
        }
        TOWN.reads(Edges.BARE, yards + "yard 3", 23);
    }

    /** Of a text with a FAULT in its last item nothing stands; that all stays is looked at by Edges. */
    private static void allOrNothing() {
        TOWN.fault("house 8;pane 1 1 8 1;walker 9 1;reach 1;yard 48;reach 0", 54);
        TOWN.fault("house 8;pane 1 1 8 1;walker 9 1;reach 1;yard 48;", 48);
        WindowsLookedOut x = TOWN.reads("house 8;pane 1 1 8 1;walker 9 1;reach 1;yard 48", 5);
        int[] due = {3, 3, 3, 1, 0, 0, 0, 1};
        for (int what = 0; what < due.length; what++) {
            TOWN.is("all stands over what there was: status(" + what + ")", x.status(what), due[what]);
        }
        TOWN.is("what there was stays", x.paneOf(0, 2), 21);
    }

    /** Of longs the lowest 32 bits are read; of the other sorts what was kept. */
    private static void elements() {
        long[][] read = {
            {0, 256, 1}, {1, 256, NONE}, {1, 65536, 1}, {2, 256, NONE}, {2, 1L << 32, 1}, {3, 256, NONE},
            {3, 1L << 31, NONE}, {3, 1L << 32, 1}, {3, -1L << 32, 1},
        };
        for (long[] one : read) {
            WindowsLookedOut x = new WindowsLookedOut();
            x.row(0, (int) one[0], 7);
            for (int i = 0; i < 7; i++) {
                x.set(0, i, "reach 5".charAt(i) + (i == 3 ? one[1] : 0));
            }
            String edge = "a letter and " + one[1] + " in a ROW of sort " + one[0];
            TOWN.is(edge, x.town(0), one[2] == 1 ? 1 : -6);
            FAULT.is(edge, x.fault(), one[2] == 1 ? NONE : 3);
        }
        for (long letter : new long[] {-1, 0, 127, 128, 255, MIN, MAX, Long.MIN_VALUE, Long.MAX_VALUE}) {
            WindowsLookedOut x = new WindowsLookedOut();
            x.row(0, 3, 7);
            for (int i = 0; i < 7; i++) {
                x.set(0, i, i == 6 ? letter : "reach 5".charAt(i));
            }
            TOWN.is("the element " + letter + " is no digit", x.town(0), -6);
            FAULT.is("the element " + letter + " is no digit", x.fault(), 6);
        }
    }

    private static void faultOfTheLatest() {
        FAULT.asked("none yet", Edges.BARE, x -> x.fault(), NONE);
        FAULT.asked("that of the ordinary town's text", x -> x.fault(), 5);
        FAULT.asked("no SHELF: it stays", x -> x.town(8), x -> x.fault(), 5);
        FAULT.asked("a PANE: it stays", x -> x.town(3), x -> x.fault(), 5);
        FAULT.asked("NOTHING: it stays", x -> x.town(4), x -> x.fault(), 5);
        FAULT.asked("an empty ROW: 0", x -> x.town(6), x -> x.fault(), 0);
        FAULT.asked("another text with a FAULT: that one's", x -> {
            Due.letters(x, 7, "house 8;");
            x.town(7);
        }, x -> x.fault(), 8);
        FAULT.asked("a text without: NONE", x -> {
            Due.letters(x, 7, "house 8");
            x.town(7);
        }, x -> x.fault(), NONE);
        FAULT.asked("a text without, then no SHELF: NONE stays", x -> {
            Due.letters(x, 7, "house 8");
            x.town(7);
            x.town(-1);
        }, x -> x.fault(), NONE);
        FAULT.asked("no ROW came yet: NONE", Edges.BARE.then(x -> x.town(0)), x -> x.fault(), NONE);
    }
}
