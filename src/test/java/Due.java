/** Counts the calls whose answer is not the one that is due, and makes rows for the tests. */
final class Due {
    private int wrong = 0;
    private int asked = 0;

    void is(String call, long got, long want) {
        asked++;
        if (got != want) {
            wrong++;
            System.out.println(call + " answered " + got + ", due is " + want);
        }
    }

    /** The statuses of a number of refusals, -1 first. */
    void refused(WindowsLookedOut x, int... want) {
        for (int i = 0; i < want.length; i++) {
            is("status(" + (11 + i) + ")", x.status(11 + i), want[i]);
        }
    }

    void end(String name) {
        System.out.println(name + ": " + asked + " answers, " + wrong + " not as due");
        if (wrong != 0) {
            System.exit(1);
        }
    }

    static void letters(WindowsLookedOut x, int s, String text) {
        x.row(s, 0, text.length());
        for (int i = 0; i < text.length(); i++) {
            x.set(s, i, text.charAt(i));
        }
    }

    static void ints(WindowsLookedOut x, int s, int... elements) {
        x.row(s, 2, elements.length);
        for (int i = 0; i < elements.length; i++) {
            x.set(s, i, elements[i]);
        }
    }

    static WindowsLookedOut townOf(String text) {
        WindowsLookedOut x = new WindowsLookedOut();
        letters(x, 7, text);
        int items = x.town(7);
        if (items < 0) {
            throw new IllegalArgumentException(text + ": a fault at " + x.fault());
        }
        return x;
    }
}
