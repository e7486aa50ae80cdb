import java.lang.management.ManagementFactory;

/** All calls of a run live in one room: an object is small, and its calls make nothing. */
public final class RoomTest {
    private static final com.sun.management.ThreadMXBean ROOM =
        (com.sun.management.ThreadMXBean) ManagementFactory.getThreadMXBean();
    private static int wrong = 0;

    public static void main(String[] args) {
        calls(1);
        long ahead = taken();
        WindowsLookedOut x = new WindowsLookedOut();
        long made = taken() - ahead;
        check("a new object", made, 40_000);
        fill(x);
        ahead = taken();
        ask(x, 512);
        check("512 rounds of the dearest calls", taken() - ahead, 40_000);
        System.out.println("RoomTest: " + wrong + " too dear");
        if (wrong != 0) {
            System.exit(1);
        }
    }

    private static long taken() {
        return ROOM.getThreadAllocatedBytes(Thread.currentThread().getId());
    }

    private static void check(String what, long bytes, long most) {
        if (bytes > most) {
            wrong++;
            System.out.println(what + " took " + bytes + " bytes");
        }
    }

    private static void calls(int rounds) {
        WindowsLookedOut x = new WindowsLookedOut();
        fill(x);
        ask(x, rounds);
    }

    private static void fill(WindowsLookedOut x) {
        x.house(24, true);
        x.house(10, true);
        for (int i = 0; i < 9; i++) {
            x.pane(i % 7, i, 24, i % 4);
        }
        for (int i = 0; i < 5; i++) {
            x.walker(i, i % 4);
        }
        Due.letters(x, 0, "house 12;yard 12;reach 4");
        Due.ints(x, 1, 23, 25, 17, 31);
        Due.ints(x, 2, 2, 1, 2, 1);
    }

    private static void ask(WindowsLookedOut x, int rounds) {
        for (int i = 0; i < rounds; i++) {
            x.row(3, 3, 160);
            x.town(0);
            x.cover(1);
            x.ask(1);
            x.housed(0);
            x.way(0, 48, 0);
            x.meet(0, 1, 0);
            x.where(3, 0);
            x.sole();
            x.fresh(23);
            x.done(2, 0, 4);
            x.days(60);
            x.act(6, 2, 9);
            x.image();
            x.restore();
        }
    }
}
