/** Promises 30 to 34: told walks judged and done, days by draws. */
public final class WalksTest {
    private static final Due DUE = new Due();
    /** A lane from 0 to 3 with three panes to its east; 3 is seen into from 2 by all but the shop. */
    private static final String LANE = "house 4;pane 0 0 4 1;pane 2 1 4 1;pane 3 0 4 1;pane 1 0 4 1;walker 0 0";

    public static void main(String[] args) {
        judge();
        behind();
        done();
        longWalks();
        refused();
        days();
        drawsTold();
        daysRefused();
        seed();
        DUE.end("WalksTest");
    }

    private static void judge() {
        WindowsLookedOut x = Due.townOf(LANE);
        Due.ints(x, 0, 2, 2, 2, 2);
        DUE.is("a house: judge(0, 0, 4)", x.judge(0, 0, 4), 3);
        DUE.is("judge(0, 0, 3)", x.judge(0, 0, 3), -1);
        DUE.is("judge(0, 0, 0)", x.judge(0, 0, 0), -1);
        Due.ints(x, 0, 2, 1, 1, 9);
        DUE.is("the edge: judge(0, 0, 4)", x.judge(0, 0, 4), 2);
        Due.ints(x, 0, 0);
        DUE.is("the edge at once: judge(0, 0, 1)", x.judge(0, 0, 1), 0);
        Due.ints(x, 0, 2, 4);
        DUE.is("no way: judge(0, 0, 2)", x.judge(0, 0, 2), 1);
        Due.ints(x, 0, -1);
        DUE.is("no way: judge(0, 0, 1)", x.judge(0, 0, 1), 0);
        x.row(0, 3, 1);
        x.set(0, 0, 2 + (1L << 32));
        DUE.is("of longs the lowest 32 bits: judge(0, 0, 1)", x.judge(0, 0, 1), -1);
        DUE.is("nothing is changed: walkerOf(0, 0)", x.walkerOf(0, 0), 0);
        DUE.is("status(16)", x.status(16), 0);
    }

    private static void behind() {
        WindowsLookedOut x = Due.townOf(LANE);
        Due.ints(x, 0, 2, 2, 2, 1, 3);
        int[][] due = {{0, 0, 0}, {1, 1, 1}, {3, 2, 2}, {6, 3, 3}, {6, 2, 3}, {6, 9, 3}};
        for (int n = 0; n < due.length; n++) {
            for (int what = 0; what < 3; what++) {
                DUE.is("behind(0, 0, " + n + ", " + what + ")", x.behind(0, 0, n, what), due[n][what]);
            }
        }
        x.put(0, 3, 2);
        DUE.is("he looks in ahead: walkerOf(0, 3)", x.walkerOf(0, 3), 3);
        DUE.is("he looks in ahead: behind(0, 0, 0, 0)", x.behind(0, 0, 0, 0), 0);
        DUE.is("he looks in ahead: behind(0, 0, 0, 2)", x.behind(0, 0, 0, 2), 0);
        DUE.is("wrong at once: behind(0, 0, 1, 0)", x.behind(0, 0, 1, 0), -6);
        DUE.is("status(5)", x.status(5), 0);
    }

    private static void done() {
        WindowsLookedOut x = Due.townOf(LANE);
        Due.ints(x, 0, 2, 2, 2, 1, 3);
        DUE.is("done(0, 0, 4)", x.done(0, 0, 4), 6);
        DUE.is("walkerOf(0, 0)", x.walkerOf(0, 0), 2);
        DUE.is("walkerOf(0, 1)", x.walkerOf(0, 1), 1);
        DUE.is("walkerOf(0, 2)", x.walkerOf(0, 2), 1);
        DUE.is("a house: done(0, 0, 2)", x.done(0, 0, 2), -6);
        DUE.is("walkerOf(0, 0) still", x.walkerOf(0, 0), 2);
        DUE.is("none at all: done(0, 0, 0)", x.done(0, 0, 0), 6);
        DUE.is("walkerOf(0, 1) still", x.walkerOf(0, 1), 1);
        DUE.is("done(0, 0, 1)", x.done(0, 0, 1), 9);
        DUE.is("walkerOf(0, 2)", x.walkerOf(0, 2), 2);
        Due.ints(x, 0, 3);
        DUE.is("no shame: done(0, 0, 1)", x.done(0, 0, 1), 9);
        DUE.is("no shame: walkerOf(0, 2)", x.walkerOf(0, 2), 2);
        DUE.is("status(5)", x.status(5), 9);
        DUE.is("status(6)", x.status(6), 2);
        DUE.is("status(4)", x.status(4), 0);
        x.put(0, 0, 0);
        Due.ints(x, 0, 2);
        DUE.is("one shame: done(0, 0, 1)", x.done(0, 0, 1), 10);
        DUE.is("one shame: walkerOf(0, 2)", x.walkerOf(0, 2), 3);
    }

    private static void longWalks() {
        WindowsLookedOut x = Due.townOf("walker 24 0");
        x.row(0, 0, 61);
        for (int i = 0; i < 61; i++) {
            x.set(0, i, i % 2 == 0 ? 1 : 2);
        }
        DUE.is("judge(0, 0, 60)", x.judge(0, 0, 60), -1);
        DUE.is("behind(0, 0, 60, 1)", x.behind(0, 0, 60, 1), 24);
        DUE.is("done(0, 0, 60)", x.done(0, 0, 60), 0);
        DUE.is("judge(0, 0, 61)", x.judge(0, 0, 61), -16);
        DUE.is("judge(0, 0, 62)", x.judge(0, 0, 62), -15);
        DUE.is("behind(0, 0, 61, 1)", x.behind(0, 0, 61, 1), -6);
        DUE.is("behind(0, 0, 61, 3)", x.behind(0, 0, 61, 3), -5);
        DUE.is("behind(0, 0, 62, 1)", x.behind(0, 0, 62, 1), -5);
        DUE.is("done(0, 0, 61)", x.done(0, 0, 61), -6);
        DUE.is("done(0, 0, 62)", x.done(0, 0, 62), -5);
        DUE.refused(x, 0, 0, 0, 0, 4, 3, 0);
    }

    private static void refused() {
        WindowsLookedOut x = Due.townOf(LANE);
        Due.ints(x, 0, 2, 2);
        x.show(1, 0);
        int[][] calls = {{8, 0, -1, 1}, {1, 1, -1, 1}, {0, -1, 0, 1}, {1, 0, -1, 2}, {2, 0, -1, 3}, {0, 0, -1, 4},
            {0, 0, Integer.MIN_VALUE, 4}, {0, 0, 3, 5}, {0, 0, Integer.MAX_VALUE, 5}};
        for (int[] c : calls) {
            String told = "(" + c[0] + ", " + c[1] + ", " + c[2];
            DUE.is("judge" + told + ")", x.judge(c[0], c[1], c[2]), -10 - c[3]);
            DUE.is("behind" + told + ", 0)", x.behind(c[0], c[1], c[2], 0), -c[3]);
            DUE.is("done" + told + ")", x.done(c[0], c[1], c[2]), -c[3]);
        }
        DUE.is("behind(0, 0, 1, 3)", x.behind(0, 0, 1, 3), -5);
        DUE.is("behind(0, 0, 1, -1)", x.behind(0, 0, 1, -1), -5);
        DUE.is("behind(0, 0, -1, 3)", x.behind(0, 0, -1, 3), -4);
        DUE.refused(x, 9, 3, 3, 7, 8, 0, 0);
    }

    /** Draws by the words: SEED times 1103515245 and 12345, its upper 16 bits, no sign, modulo 4. */
    private static int drawn(int seed) {
        return (int) ((seed & 0xffffffffL) / 65536 % 4);
    }

    private static void days() {
        for (int first = -3; first < 40; first++) {
            WindowsLookedOut x = Due.townOf("house 0;house 6;walker 24 0;walker 3 1");
            x.seed(first * 77777777);
            int seed = first * 77777777;
            int[] at = {24, 3};
            for (int day = 1; day < 6; day++) {
                DUE.is("days(1)", x.days(1), 0);
                for (int w = 0; w < 2; w++) {
                    seed = seed * 1103515245 + 12345;
                    int way = drawn(seed);
                    int row = at[w] / 7 + (way == 0 ? -1 : way == 3 ? 1 : 0);
                    int column = at[w] % 7 + (way == 1 ? -1 : way == 2 ? 1 : 0);
                    int next = 7 * row + column;
                    if (row >= 0 && row < 7 && column >= 0 && column < 7 && next != 0 && next != 6) {
                        at[w] = next;
                    }
                    DUE.is("day " + day + ": walkerOf(" + w + ", 0)", x.walkerOf(w, 0), at[w]);
                    DUE.is("day " + day + ": walkerOf(" + w + ", 1)", x.walkerOf(w, 1), way);
                }
                DUE.is("status(4)", x.status(4), day);
                DUE.is("status(7)", x.status(7), seed);
            }
        }
    }

    /** Hemmed in: he can go nowhere, but faces each way drawn, and looks in at two panes to the north. */
    private static void drawsTold() {
        WindowsLookedOut x = Due.townOf("house 17;house 23;house 25;house 31;pane 0 0 17 3;pane 4 0 17 3;pane 1 0 17 3;"
            + "walker 24 3;walker 24 3");
        int seed = 1;
        int shame = 0;
        int[] tried = new int[2];
        for (int i = 0; i < 60; i++) {
            for (int w = 0; w < 2; w++) {
                seed = seed * 1103515245 + 12345;
                if (drawn(seed) == 0) {
                    shame += 2;
                    tried[w]++;
                }
            }
        }
        DUE.is("days(60)", x.days(60), shame);
        DUE.is("shame there was", shame > 0 ? 1 : 0, 1);
        DUE.is("walkerOf(0, 2)", x.walkerOf(0, 2), tried[0]);
        DUE.is("walkerOf(1, 2)", x.walkerOf(1, 2), tried[1]);
        DUE.is("walkerOf(0, 0)", x.walkerOf(0, 0), 24);
        DUE.is("status(4)", x.status(4), 60);
        DUE.is("status(5)", x.status(5), shame);
        DUE.is("status(6)", x.status(6), tried[0] + tried[1]);
        DUE.is("status(7)", x.status(7), seed);
    }

    private static void daysRefused() {
        WindowsLookedOut x = new WindowsLookedOut();
        DUE.is("nobody: days(0)", x.days(0), -5);
        DUE.is("nobody: days(1)", x.days(1), -5);
        x.walker(24, 0);
        DUE.is("days(0)", x.days(0), -6);
        DUE.is("days(61)", x.days(61), -6);
        DUE.is("days(-1)", x.days(-1), -6);
        DUE.is("status(4)", x.status(4), 0);
        DUE.is("status(7)", x.status(7), 1);
        DUE.refused(x, 0, 0, 0, 0, 2, 3, 0);
    }

    private static void seed() {
        WindowsLookedOut x = new WindowsLookedOut();
        DUE.is("seed(-7)", x.seed(-7), 1);
        DUE.is("seed(MIN)", x.seed(Integer.MIN_VALUE), -7);
        DUE.is("status(7)", x.status(7), Integer.MIN_VALUE);
        DUE.is("seed(0)", x.seed(0), Integer.MIN_VALUE);
        DUE.refused(x, 0, 0, 0, 0, 0, 0, 0);
    }
}
