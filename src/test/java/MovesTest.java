/** Promises 35 and 36: what panes do, and the trace of it. */
public final class MovesTest {
    private static final Due DUE = new Due();

    public static void main(String[] args) {
        bodies();
        wrapping();
        none();
        DUE.end("MovesTest");
    }

    private static void act(WindowsLookedOut x, int pane, int move, int with, int due, int... trace) {
        String call = "act(" + pane + ", " + move + ", " + with + ")";
        DUE.is(call, x.act(pane, move, with), due);
        DUE.is(call + ": status(8)", x.status(8), trace.length);
        for (int i = 0; i < trace.length; i++) {
            DUE.is(call + ": trace(" + i + ")", x.trace(i), trace[i]);
        }
        DUE.is(call + ": trace(" + trace.length + ")", x.trace(trace.length), -1);
        DUE.is(call + ": trace(-1)", x.trace(-1), -1);
    }

    /** A pane of each kind, its number the kind, its a 3; with x = 10. */
    private static void bodies() {
        WindowsLookedOut x = Due.townOf("house 24;pane 0 3 24 0;pane 1 3 24 0;pane 2 3 24 0;pane 3 3 24 0;"
            + "pane 4 3 24 0;pane 5 3 24 0;pane 6 3 24 0");
        act(x, 0, 0, 10, 10, 10);
        act(x, 0, 1, 10, 20, 11, 10);
        act(x, 0, 2, 10, 20 ^ 7, 12, 11, 10, 10);
        act(x, 1, 0, 10, 14, 20, 10);
        act(x, 1, 1, 10, 28, 11, 20, 10);
        act(x, 1, 2, 10, 28 ^ 11, 12, 11, 20, 10, 20, 10);
        act(x, 2, 0, 10, 12, 10);
        act(x, 2, 1, 10, 72, 30, 11, 10);
        act(x, 2, 2, 10, 72 ^ 9, 12, 30, 11, 10, 10);
        act(x, 3, 0, 10, 17, 40, 20, 10);
        act(x, 3, 1, 10, 34, 11, 40, 20, 10);
        act(x, 3, 2, 10, 34 ^ 14, 12, 11, 40, 20, 10, 40, 20, 10);
        act(x, 4, 0, 10, 10, 51, 10);
        act(x, 4, 1, 10, 20, 11, 51, 10);
        act(x, 4, 2, 10, -(20 ^ 7), 50, 12, 11, 51, 10, 51, 10);
        act(x, 5, 0, 10, 10, 51, 10);
        act(x, 5, 1, 10, 20, 11, 51, 10);
        act(x, 5, 2, 10, -(20 ^ 7) ^ 5, 60, 50, 12, 11, 51, 10, 51, 10);
        act(x, 6, 0, 10, 32, 70, 10);
        act(x, 6, 1, 10, (10 - 3 + 6) * 2 * 2 * 3, 71, 30, 11, 70, 10);
        act(x, 6, 2, 10, 156 ^ 26, 12, 71, 30, 11, 70, 10, 70, 10);
    }

    private static void wrapping() {
        WindowsLookedOut x = Due.townOf("house 24;pane 0 3 24 0;pane 0 3 24 0;pane 3 0 24 0");
        act(x, 1, 0, Integer.MAX_VALUE, Integer.MIN_VALUE, 10);
        act(x, 1, 1, 1 << 30, (1 << 31) + 2, 11, 10);
        act(x, 2, 0, Integer.MAX_VALUE, Integer.MIN_VALUE + 2, 40, 20, 10);
        act(x, 0, 2, Integer.MIN_VALUE, Integer.MAX_VALUE - 2, 12, 11, 10, 10);
    }

    private static void none() {
        WindowsLookedOut x = Due.townOf("house 24;pane 0 3 24 0");
        int[][] calls = {{1, 0}, {-1, 0}, {0, 3}, {0, -1}};
        for (int[] one : calls) {
            x.act(0, 2, 5);
            DUE.is("trace(3) ahead", x.trace(3), 10);
            act(x, one[0], one[1], 7, 0);
        }
        DUE.is("trace(20)", x.trace(20), -1);
        DUE.is("trace(MAX)", x.trace(Integer.MAX_VALUE), -1);
        DUE.is("trace(MIN)", x.trace(Integer.MIN_VALUE), -1);
        DUE.refused(x, 0, 0, 0, 0, 0, 0, 0);
    }
}
