/** Promises 37 to 39: the image of it all, and the numbers of it. */
public final class ImageTest {
    private static final Due DUE = new Due();

    public static void main(String[] args) {
        restored();
        restoredAgain();
        leftAlone();
        status();
        DUE.end("ImageTest");
    }

    private static void restored() {
        WindowsLookedOut x = new WindowsLookedOut();
        DUE.is("restore() of none", x.restore(), -6);
        Due.letters(x, 0, "house 24;house 3;pane 4 2 24 1;walker 23 2;reach 2");
        x.town(0);
        Due.ints(x, 0, 1, 2);
        x.done(0, 0, 2);
        x.days(2);
        int[] numbers = new int[9];
        for (int what = 0; what < 9; what++) {
            numbers[what] = x.status(what);
        }
        int at = x.walkerOf(0, 0);
        int faced = x.walkerOf(0, 1);
        DUE.is("shame ahead", x.status(5) > 0 ? 1 : 0, 1);
        DUE.is("image()", x.image(), 1);
        Due.letters(x, 1, "house 25;pane 0 0 25 0;walker 48 0;reach 5;yard 3");
        x.town(1);
        x.days(60);
        x.put(0, 48, 0);
        x.seed(99);
        DUE.is("restore()", x.restore(), 1);
        for (int what = 0; what < 9; what++) {
            DUE.is("restored: status(" + what + ")", x.status(what), numbers[what]);
        }
        DUE.is("restored: walkerOf(0, 0)", x.walkerOf(0, 0), at);
        DUE.is("restored: walkerOf(0, 1)", x.walkerOf(0, 1), faced);
        DUE.is("restored: walkerOf(1, 0)", x.walkerOf(1, 0), -5);
        DUE.is("restored: paneOf(1, 0)", x.paneOf(1, 0), -5);
        DUE.is("restored: seen(3, 1)", x.seen(3, 1), 1);
        DUE.is("restored: seen(25, 1)", x.seen(25, 1), 0);
    }

    private static void restoredAgain() {
        WindowsLookedOut x = Due.townOf("house 24;pane 0 0 24 0");
        DUE.is("image()", x.image(), 1);
        x.pane(1, 0, 24, 1);
        x.restore();
        DUE.is("another pane of the same number", x.pane(2, 5, 24, 2), 1);
        x.house(3, true);
        DUE.is("restore() again", x.restore(), 1);
        DUE.is("status(2)", x.status(2), 1);
        x.pane(1, 0, 24, 1);
        DUE.is("image() again", x.image(), 2);
        x.pane(1, 0, 24, 1);
        DUE.is("restore() of the later", x.restore(), 2);
    }

    /** Shelves, refusals, the fault and the trace are in no image; shelves of panes that go are emptied. */
    private static void leftAlone() {
        WindowsLookedOut x = Due.townOf("house 24;pane 0 0 24 0");
        x.image();
        x.pane(1, 4, 24, 1);
        x.show(0, 0);
        x.show(1, 1);
        Due.ints(x, 2, 7);
        Due.letters(x, 3, "reach x");
        x.town(3);
        x.act(1, 1, 5);
        DUE.is("restore()", x.restore(), 1);
        DUE.is("holds(0)", x.holds(0), 0);
        DUE.is("holds(1)", x.holds(1), -1);
        DUE.is("holds(2)", x.holds(2), 102);
        DUE.is("element(2, 0)", x.element(2, 0), 7);
        DUE.is("fault()", x.fault(), 6);
        DUE.is("status(8)", x.status(8), 3);
        DUE.is("trace(1)", x.trace(1), 20);
        DUE.refused(x, 0, 0, 0, 0, 0, 1, 0);
        x.pane(3, 0, 24, 3);
        x.show(0, 1);
        x.show(7, 1);
        x.restore();
        DUE.is("holds(0)", x.holds(0), -1);
        DUE.is("holds(7)", x.holds(7), -1);
        x.show(0, 0);
        x.pane(3, 0, 24, 3);
        DUE.is("the shelf stays empty: holds(1)", x.holds(1), -1);
        DUE.is("says(0, 0)", x.says(0, 0), 24);
    }

    private static void status() {
        WindowsLookedOut x = Due.townOf("house 24;house 0;pane 0 0 24 0;walker 1 0;walker 2 0;walker 3 0;reach 5");
        int[] due = {1, 3, 2, 5, 0, 0, 0, 1, 0};
        for (int what = 0; what < 9; what++) {
            DUE.is("status(" + what + ")", x.status(what), due[what]);
        }
        x.show(8, 0);
        x.show(0, 0);
        x.town(0);
        x.town(0);
        x.cover(1);
        x.cover(1);
        x.cover(1);
        x.row(0, 0, -1);
        x.paneOf(9, 9);
        x.seen(9, 9);
        x.reach(0);
        x.row(0, 0, 161);
        DUE.refused(x, 1, 2, 3, 1, 2, 1, 1);
        int[] none = {-1, 9, 10, 18, -11, Integer.MAX_VALUE, Integer.MIN_VALUE};
        for (int what : none) {
            DUE.is("status(" + what + ")", x.status(what), -1);
        }
        DUE.refused(x, 1, 2, 3, 1, 2, 1, 1);
    }
}
