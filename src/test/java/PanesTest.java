/** Promises 23 to 28: what panes tell together, and where to put a pane or a house. */
public final class PanesTest {
    private static final Due DUE = new Due();

    public static void main(String[] args) {
        cover();
        coverRefused();
        sole();
        where();
        ask();
        askRefused();
        fresh();
        housed();
        DUE.end("PanesTest");
    }

    private static void cover(WindowsLookedOut x, int due, int... squares) {
        Due.ints(x, 0, squares);
        DUE.is("cover of " + java.util.Arrays.toString(squares), x.cover(0), due);
    }

    /** 0 and 1 see 22 to 25; 2 sees 23 to 26; 3 sees 14, 7 and 0; 4 is curtained. */
    private static final String TOWN = "house 21;house 27;pane 0 0 21 2;pane 1 0 21 2;pane 0 0 27 1;pane 0 0 21 0;"
        + "pane 2 0 27 1";

    private static void cover() {
        WindowsLookedOut x = Due.townOf(TOWN);
        cover(x, 0);
        cover(x, 1, 22);
        cover(x, 1, 22, 23, 24, 25, 25, 22);
        cover(x, 1, 24);
        cover(x, 4, 26, 24);
        cover(x, 5, 26, 22);
        cover(x, 13, 26, 22, 0);
        cover(x, 8, 0, 7, 14);
        cover(x, -1, 22, 28);
        cover(x, -1, 21);
        x.row(1, 3, 1);
        x.set(1, 0, 22 + (1L << 32));
        DUE.is("of longs the lowest 32 bits: cover(1)", x.cover(1), 1);
        x = Due.townOf("house 21;house 27;house 0;pane 0 0 21 2;pane 0 0 27 1;pane 0 0 21 2;reach 3");
        cover(x, 3, 22, 26);
        x.pane(5, 5, 21, 2);
        cover(x, 8, 22, 26);
        cover(x, 1, 22, 24);
        cover(new WindowsLookedOut(), 0);
        cover(new WindowsLookedOut(), -1, 22);
    }

    private static void coverRefused() {
        WindowsLookedOut x = Due.townOf(TOWN);
        x.show(1, 0);
        DUE.is("cover(8)", x.cover(8), -11);
        DUE.is("cover(-1)", x.cover(-1), -11);
        DUE.is("cover(1)", x.cover(1), -12);
        DUE.is("cover(2)", x.cover(2), -13);
        cover(x, -16, 22, 49);
        cover(x, -16, -1);
        DUE.refused(x, 2, 1, 1, 0, 0, 2, 0);
    }

    private static void sole() {
        WindowsLookedOut x = new WindowsLookedOut();
        DUE.is("no panes: sole()", x.sole(), -1);
        x = Due.townOf("house 24;pane 6 0 24 0;pane 2 0 24 0");
        DUE.is("nothing seen: sole()", x.sole(), 0);
        x = Due.townOf(TOWN);
        DUE.is("3 alone sees three: sole()", x.sole(), 3);
        x = Due.townOf("house 21;house 27;pane 4 0 21 2;pane 5 0 21 2;pane 0 0 27 1;pane 0 0 27 0");
        DUE.is("3 alone sees three, 2 but one: sole()", x.sole(), 3);
        x = Due.townOf("house 24;pane 2 0 24 0;pane 0 0 24 1;pane 0 0 24 2");
        DUE.is("of several the first: sole()", x.sole(), 1);
        DUE.refused(x, 0, 0, 0, 0, 0, 0, 0);
    }

    private static void where() {
        WindowsLookedOut x = Due.townOf(TOWN);
        int[][] due = {{3, 1, 22}, {7, 3, 23}, {4, 1, 26}, {8, 3, 0}, {0, 39, 1}, {1, 0, -1}, {31, 0, -1}};
        for (int[] one : due) {
            DUE.is("where(" + one[0] + ", 0)", x.where(one[0], 0), one[1]);
            DUE.is("where(" + one[0] + ", 1)", x.where(one[0], 1), one[2]);
        }
        DUE.is("where(32, 2)", x.where(32, 2), -15);
        DUE.is("where(0, -1)", x.where(0, -1), -15);
        DUE.is("where(32, 0)", x.where(32, 0), -16);
        DUE.is("where(-1, 0)", x.where(-1, 0), -16);
        DUE.is("where(MIN, 0)", x.where(Integer.MIN_VALUE, 0), -16);
        DUE.refused(x, 0, 0, 0, 0, 2, 3, 0);
        WindowsLookedOut none = new WindowsLookedOut();
        DUE.is("new: where(0, 0)", none.where(0, 0), 49);
        DUE.is("new: where(0, 1)", none.where(0, 1), 0);
        DUE.is("new: where(1, 0)", none.where(1, 0), -16);
    }

    private static void ask(WindowsLookedOut x, int due, int... squares) {
        Due.ints(x, 0, squares);
        DUE.is("ask of " + java.util.Arrays.toString(squares), x.ask(0), due);
    }

    private static void ask() {
        WindowsLookedOut x = Due.townOf(TOWN);
        ask(x, -1);
        ask(x, -1, 22);
        ask(x, 0, 22, 22);
        ask(x, 0, 22, 26);
        ask(x, 0, 22, 26, 26, 22, 23);
        ask(x, 0, 22, 0);
        ask(x, 2, 22, 0, 0, 26, 26, 24);
        ask(x, 3, 0, 7, 28, 29);
        ask(x, 2, 26, 26, 48, 48);
        ask(x, 2, 26, 26, 48, 22);
        ask(x, 0, 26, 26, 22, 22, 0, 0);
        ask(x, 2, 26, 26, 26, 22, 48);
        ask(x, 0, 30, 31);
        ask(new WindowsLookedOut(), -1, 22, 23);
    }

    private static void askRefused() {
        WindowsLookedOut x = Due.townOf(TOWN);
        x.show(1, 0);
        DUE.is("ask(8)", x.ask(8), -11);
        DUE.is("ask(1)", x.ask(1), -12);
        DUE.is("ask(2)", x.ask(2), -13);
        ask(x, -16, 49);
        ask(x, -16, 22, -1);
        DUE.refused(x, 1, 1, 1, 0, 0, 2, 0);
    }

    private static void fresh() {
        WindowsLookedOut x = Due.townOf("house 21;house 27;house 3;house 45");
        DUE.is("fresh(24): from 3 to the south", x.fresh(24), 33);
        x.reach(2);
        DUE.is("fresh(24), reach 2", x.fresh(24), -1);
        x.reach(3);
        DUE.is("fresh(24), reach 3", x.fresh(24), 33);
        DUE.is("fresh(22)", x.fresh(22), 212);
        DUE.is("fresh(26)", x.fresh(26), 271);
        DUE.is("fresh(28)", x.fresh(28), 213);
        DUE.is("fresh(14)", x.fresh(14), 210);
        DUE.is("fresh(44)", x.fresh(44), 451);
        DUE.is("fresh(0)", x.fresh(0), 31);
        DUE.is("fresh(8)", x.fresh(8), -1);
        DUE.is("fresh(21)", x.fresh(21), -16);
        DUE.is("fresh(49)", x.fresh(49), -16);
        DUE.is("fresh(-1)", x.fresh(-1), -16);
        DUE.refused(x, 0, 0, 0, 0, 0, 3, 0);
        DUE.is("nothing is changed: status(0)", x.status(0), 0);
        DUE.is("from 0: fresh(3)", Due.townOf("house 0;house 6").fresh(3), 2);
        DUE.is("no houses: fresh(0)", new WindowsLookedOut().fresh(0), -1);
    }

    private static void housed() {
        WindowsLookedOut x = Due.townOf("house 21;pane 0 0 21 2;walker 25 0;walker 24 0;walker 24 1;walker 0 0");
        DUE.is("housed(0)", x.housed(0), 22);
        DUE.is("housed(1)", x.housed(1), 0);
        x.put(3, 22, 0);
        DUE.is("housed(0)", x.housed(0), 23);
        DUE.is("housed(1)", x.housed(1), 1);
        x.put(2, 23, 0);
        DUE.is("all squares taken: housed(0)", x.housed(0), 0);
        DUE.is("all squares taken: housed(1)", x.housed(1), 4);
        DUE.is("nothing is changed: status(2)", x.status(2), 1);
        DUE.is("housed(2)", x.housed(2), -15);
        DUE.is("housed(-1)", x.housed(-1), -15);
        for (int square = 0; square < 49; square++) {
            x.house(square, true);
        }
        DUE.is("no such square: housed(0)", x.housed(0), -1);
        DUE.is("no such square: housed(1)", x.housed(1), -1);
        DUE.refused(x, 0, 0, 0, 0, 2, 4, 0);
        WindowsLookedOut bay = Due.townOf("house 21;pane 4 0 21 2;walker 16 0;walker 15 0");
        DUE.is("bay: housed(0)", bay.housed(0), 22);
        bay.put(1, 22, 0);
        DUE.is("bay, somebody before it: housed(0)", bay.housed(0), 23);
        DUE.is("bay, somebody before it: housed(1)", bay.housed(1), 1);
    }
}
