/** Promises 16 and 17: towns read from texts, and their faults. */
public final class TextsTest {
    private static final Due DUE = new Due();

    public static void main(String[] args) {
        stands();
        faults();
        faultsByWhatIsThere();
        room();
        allOrNothing();
        sorts();
        refused();
        DUE.end("TextsTest");
    }

    private static WindowsLookedOut read(String town, String text, int items, int fault) {
        WindowsLookedOut x = town.isEmpty() ? new WindowsLookedOut() : Due.townOf(town);
        Due.letters(x, 0, text);
        DUE.is("<" + town + "> town <" + text + ">", x.town(0), items);
        DUE.is("<" + town + "> fault <" + text + ">", x.fault(), fault);
        return x;
    }

    private static void stands() {
        WindowsLookedOut x = read("", "house 8;house 24;pane 5 9 8 2;walker 10 1;reach 6;yard 24", 6, -1);
        int[] numbers = {1, 1, 1, 6};
        for (int what = 0; what < 4; what++) {
            DUE.is("status(" + what + ")", x.status(what), numbers[what]);
        }
        DUE.is("paneOf(0, 0)", x.paneOf(0, 0), 5);
        DUE.is("paneOf(0, 1)", x.paneOf(0, 1), 9);
        DUE.is("paneOf(0, 2)", x.paneOf(0, 2), 8);
        DUE.is("paneOf(0, 3)", x.paneOf(0, 3), 2);
        DUE.is("walkerOf(0, 0)", x.walkerOf(0, 0), 10);
        DUE.is("walkerOf(0, 1)", x.walkerOf(0, 1), 1);
        read("", "house 08", 1, -1);
        read("", "reach 06;reach 01", 2, -1);
        read("", "house 48;yard 48;yard 48;house 0", 4, -1);
        read("walker 3 0", "yard 3", 1, -1);
        read("house 3;pane 0 0 3 0", "house 3", 1, -1);
    }

    private static void faults() {
        read("", "", -6, 0);
        read("", ";", -6, 0);
        read("", "House 8", -6, 0);
        read("", " house 8", -6, 0);
        read("", "h", -6, 1);
        read("", "hause 8", -6, 1);
        read("", "house", -6, 5);
        read("", "houses 8", -6, 5);
        read("", "house ", -6, 6);
        read("", "house  8", -6, 6);
        read("", "house x", -6, 6);
        read("", "house 8x", -6, 7);
        read("", "house 8 ", -6, 7);
        read("", "house 123", -6, 8);
        read("", "house 008", -6, 8);
        read("", "house 499", -6, 6);
        read("", "house 8;", -6, 8);
        read("", "house 8; house 9", -6, 8);
        read("", "house 8;;house 9", -6, 8);
        read("", "house 8,house 9", -6, 7);
        read("", "house 8;pane 0 0 8", -6, 18);
        read("", "house 8;pane 0 0 8 ", -6, 19);
        read("", "house 8;pane 0 0 8;", -6, 18);
        read("", "walker 8", -6, 8);
        read("", "walker 8;", -6, 8);
        read("", "reach -1", -6, 6);
    }

    private static void faultsByWhatIsThere() {
        read("", "house 49", -6, 6);
        read("", "yard 50", -6, 5);
        read("", "reach 0", -6, 6);
        read("", "reach 7", -6, 6);
        read("", "reach 10", -6, 6);
        read("walker 9 0", "house 9", -6, 6);
        read("", "walker 9 0;house 9", -6, 17);
        read("house 9;pane 0 0 9 0", "yard 9", -6, 5);
        read("", "house 9;pane 0 0 9 0;yard 9", -6, 26);
        read("", "pane 7 0 9 0", -6, 5);
        read("", "pane 0 10 9 0", -6, 7);
        read("", "pane 0 0 9 0", -6, 9);
        read("house 9", "pane 0 0 9 4", -6, 11);
        read("house 9", "pane 0 0 49 4", -6, 9);
        read("house 9", "walker 9 0", -6, 7);
        read("house 9", "walker 49 0", -6, 7);
        read("house 9", "walker 8 4", -6, 9);
        read("house 9", "walker 08 04", -6, 10);
        read("house 9", "house 8;yard 9;pane 0 0 9 0", -6, 24);
        read("house 9", "pane 0 12x", -6, 7);
    }

    private static final String EIGHT = "house 0;pane 0 0 0 0;pane 0 0 0 0;pane 0 0 0 0;pane 0 0 0 0;"
        + "pane 0 0 0 0;pane 0 0 0 0;pane 0 0 0 0;pane 0 0 0 0";
    private static final String FIVE = "walker 1 0;walker 1 0;walker 1 0;walker 1 0;walker 1 0";

    private static void room() {
        read(EIGHT, "pane 1 1 0 1", 1, -1);
        read(EIGHT, "pane 1 1 0 1;pane 1 1 0 1", -6, 13);
        read(EIGHT + ";pane 0 0 0 0", "pane", -6, 0);
        read(EIGHT + ";pane 0 0 0 0", "pan", -6, 3);
        read(EIGHT + ";pane 0 0 0 0", "panx", -6, 3);
        read(EIGHT + ";pane 0 0 0 0", "reach 5;panex", -6, 8);
        read(FIVE, "walker", -6, 0);
        read(FIVE, "walke", -6, 5);
        read(FIVE, "walkex 1 0", -6, 5);
        read(FIVE, "house 3;walker 9 9", -6, 8);
        read("", FIVE + ";walker 1 0", -6, 55);
    }

    private static void allOrNothing() {
        String text = "house 9;pane 0 0 9 2;walker 20 1;reach 5;yard 8;house 5x";
        WindowsLookedOut x = read("house 8;reach 2", text, -6, 55);
        DUE.is("nothing of it: status(0)", x.status(0), 0);
        DUE.is("nothing of it: status(1)", x.status(1), 0);
        DUE.is("nothing of it: status(2)", x.status(2), 1);
        DUE.is("nothing of it: status(3)", x.status(3), 2);
        DUE.is("nothing of it: seen(8, 1)", x.seen(8, 1), 1);
        DUE.refused(x, 0, 0, 0, 0, 0, 1, 0);
        Due.letters(x, 0, "house 9;pane 0 0 9 2");
        DUE.is("town(0)", x.town(0), 2);
        DUE.is("fault()", x.fault(), -1);
        DUE.is("over what there is: status(2)", x.status(2), 2);
    }

    /** Letters are ints: of longs the lowest 32 bits, and nothing lower is left away. */
    private static void sorts() {
        WindowsLookedOut x = new WindowsLookedOut();
        String text = "reach 3";
        for (int sort = 0; sort < 4; sort++) {
            x.row(0, sort, text.length());
            for (int i = 0; i < text.length(); i++) {
                x.set(0, i, text.charAt(i) + (1L << 33));
            }
            DUE.is("town(0), sort " + sort, x.town(0), 1);
        }
        x.set(0, 6, '3' + 65536);
        DUE.is("a letter and 65536: town(0)", x.town(0), -6);
        DUE.is("a letter and 65536: fault()", x.fault(), 6);
        x.set(0, 6, -1);
        DUE.is("-1: town(0)", x.town(0), -6);
        DUE.is("-1: fault()", x.fault(), 6);
    }

    private static void refused() {
        WindowsLookedOut x = Due.townOf("house 3;pane 0 0 3 0");
        x.show(1, 0);
        Due.letters(x, 0, "reach 9");
        DUE.is("fault() ahead", x.fault(), -1);
        DUE.is("town(0)", x.town(0), -6);
        DUE.is("town(8)", x.town(8), -1);
        DUE.is("town(-1)", x.town(-1), -1);
        DUE.is("town(1)", x.town(1), -2);
        DUE.is("town(2)", x.town(2), -3);
        DUE.is("fault() of the latest that came to a row", x.fault(), 6);
        DUE.refused(x, 2, 1, 1, 0, 0, 1, 0);
    }
}
