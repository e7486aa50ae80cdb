/** A town whose windows may be looked out of, not in: who sees whom, and how to go without shame. */
public final class WindowsLookedOut {
    public static final int NONE = -1;

    private static final int NOBODY = -1;
    private static final int OTHER = -2;
    private static final int NOTHING = -3;
    private static final int BELOW = -4;
    private static final int BEYOND = -5;
    private static final int WRONG = -6;
    private static final int ROOM = -7;
    private static final int FINE = 0;
    /** Most calls that only ask tell their refusals this much lower, so that none looks like an answer NONE. */
    private static final int APART = 10;

    private static final int SIDE = 7;
    private static final int SQUARES = 49;
    private static final int WAYS = 4;
    private static final int MOST_PANES = 9;
    private static final int MOST_WALKERS = 5;
    private static final int MOST_A = 9;
    private static final int MOST_REACH = 6;
    private static final int MOST_STEPS = 60;
    private static final int MOST_DAYS = 60;
    private static final int SHELVES = 8;
    private static final int MOST_ELEMENTS = 160;

    private static final int NORTH = 0;
    private static final int WEST = 1;
    private static final int EAST = 2;
    private static final int SOUTH = 3;

    private static final int KINDS = 7;
    private static final int PANE = 0;
    private static final int MIRROR = 1;
    private static final int CURTAINED = 2;
    private static final int SHOP = 3;
    private static final int BAY = 4;
    private static final int ATTIC = 5;
    private static final int BLIND = 6;
    /** The kind above each kind. */
    private static final int[] ABOVE = {NONE, PANE, PANE, MIRROR, PANE, BAY, CURTAINED};

    private final Town now = new Town();
    private final Town kept = new Town();
    private boolean keeps = false;
    private final Shelf[] shelves = new Shelf[SHELVES];
    private final int[] refusals = new int[-ROOM + 1];
    private final Reader reader = new Reader();
    private final Sight sight = new Sight();
    private final Walk walk = new Walk();
    private final Ways ways = new Ways();
    private final Ways otherWays = new Ways();
    private final Moves moves = new Moves();

    public WindowsLookedOut() {
        for (int s = 0; s < SHELVES; s++) {
            shelves[s] = new Shelf();
        }
    }

    // ---- shelves ----

    public int row(int s, int sort, int n) {
        if (!isShelf(s)) {
            return refuse(NOBODY);
        }
        if (n < 0) {
            return refuse(BELOW);
        }
        if (!Shelf.isSort(sort)) {
            return refuse(WRONG);
        }
        if (n > MOST_ELEMENTS) {
            return refuse(ROOM);
        }
        shelves[s].holdRow(sort, n);
        return 1;
    }

    public int set(int s, int i, long v) {
        int trouble = rowTrouble(s);
        if (trouble != FINE) {
            return refuse(trouble);
        }
        if (!shelves[s].hasElement(i)) {
            return refuse(BEYOND);
        }
        shelves[s].keep(i, v);
        return 1;
    }

    public int copy(int p, int q, int i, int j, int n) {
        int trouble = copyTrouble(p, q, i, j, n);
        if (trouble != FINE) {
            return refuse(trouble);
        }
        shelves[q].takeFrom(shelves[p], i, j, n);
        return 1;
    }

    public long element(int s, int i) {
        return isShelf(s) ? shelves[s].longAt(i) : 0L;
    }

    public int show(int s, int pane) {
        if (!isShelf(s) || pane != NONE && !now.isPane(pane)) {
            return refuse(NOBODY);
        }
        shelves[s].holdPane(pane);
        return pane == NONE ? 0 : 1;
    }

    public int holds(int s) {
        return isShelf(s) ? shelves[s].held : NONE;
    }

    public int says(int s, int kind) {
        if (!isShelf(s) || !isKind(kind)) {
            return refuse(NOBODY);
        }
        int held = shelves[s].held;
        if (shelves[s].isRow()) {
            return refuse(OTHER);
        }
        if (held == NONE) {
            return refuse(NOTHING);
        }
        if (!isUnder(now.kindOf(held), kind)) {
            return refuse(OTHER);
        }
        switch (kind) {
            case MIRROR:
            case SHOP:
                return now.outOf(held);
            case CURTAINED:
            case BLIND:
                return now.aOf(held);
            case BAY:
            case ATTIC:
                return Long.bitCount(now.sightOf(held));
            default:
                return now.atOf(held);
        }
    }

    // ---- the town ----

    public int house(int square, boolean is) {
        if (!Grid.isSquare(square)) {
            return refuse(WRONG);
        }
        if (now.isSomebodyAt(square) || !is && now.isPaneAt(square)) {
            return refuse(WRONG);
        }
        int was = now.isHouse(square) ? 1 : 0;
        now.build(square, is);
        return was;
    }

    public int pane(int kind, int a, int at, int way) {
        if (!isKind(kind)) {
            return refuse(NOBODY);
        }
        if (a < 0 || a > MOST_A || !now.isHouse(at) || !Grid.isWay(way)) {
            return refuse(WRONG);
        }
        if (!now.hasRoomForPane()) {
            return refuse(ROOM);
        }
        return now.addPane(kind, a, at, way);
    }

    public int walker(int at, int way) {
        if (!now.isYard(at) || !Grid.isWay(way)) {
            return refuse(WRONG);
        }
        if (!now.hasRoomForWalker()) {
            return refuse(ROOM);
        }
        return now.addWalker(at, way);
    }

    public int put(int walker, int square, int way) {
        if (!now.isWalker(walker)) {
            return refuse(NOBODY);
        }
        if (!now.isYard(square) || !Grid.isWay(way)) {
            return refuse(WRONG);
        }
        int was = now.whereIs(walker);
        now.place(walker, square, way);
        return was;
    }

    public int reach(int v) {
        if (!isReach(v)) {
            return refuse(WRONG);
        }
        int was = now.reach;
        now.reach = v;
        return was;
    }

    public int paneOf(int pane, int what) {
        if (!now.isPane(pane)) {
            return refuse(BEYOND);
        }
        switch (what) {
            case 0:
                return now.kindOf(pane);
            case 1:
                return now.aOf(pane);
            case 2:
                return now.atOf(pane);
            case 3:
                return now.outOf(pane);
            case 4:
                return Long.bitCount(now.sightOf(pane));
            case 5:
                return now.walkersIn(now.sightOf(pane));
            default:
                return refuse(BEYOND);
        }
    }

    public int walkerOf(int walker, int what) {
        if (!now.isWalker(walker)) {
            return refuse(BEYOND);
        }
        switch (what) {
            case 0:
                return now.whereIs(walker);
            case 1:
                return now.facedBy(walker);
            case 2:
                return now.triedOf(walker);
            case 3:
                return Integer.bitCount(now.lookedInBy(walker));
            case 4:
                return now.lookedInBy(walker);
            case 5:
                return panesThatSee(now.whereIs(walker));
            default:
                return refuse(BEYOND);
        }
    }

    public int town(int s) {
        int trouble = rowTrouble(s);
        if (trouble != FINE) {
            return refuse(trouble);
        }
        int items = reader.readOver(now, shelves[s]);
        if (items == NONE) {
            return refuse(WRONG);
        }
        now.become(reader.draft);
        return items;
    }

    public int fault() {
        return reader.fault;
    }

    // ---- sight ----

    public int seen(int square, int what) {
        if (what < 0 || what > 1) {
            return refuseApart(BEYOND);
        }
        if (!Grid.isSquare(square)) {
            return refuseApart(WRONG);
        }
        if (what == 1) {
            return now.isHouse(square) ? 1 : 0;
        }
        return panesThatSee(square);
    }

    public int looks(int square, int way) {
        if (!now.isYard(square) || !Grid.isWay(way)) {
            return refuseApart(WRONG);
        }
        return now.lookedInFrom(square, way);
    }

    public int all() {
        sight.take(now, now.houses);
        return Long.bitCount(sight.union());
    }

    public int turn(int walker, int what) {
        if (!now.isWalker(walker)) {
            return refuse(NOBODY);
        }
        if (what < 0 || what > 1) {
            return refuse(BEYOND);
        }
        int at = now.whereIs(walker);
        int best = NORTH;
        int least = now.shameFrom(at, NORTH);
        for (int way = 1; way < WAYS; way++) {
            int shame = now.shameFrom(at, way);
            if (shame < least) {
                least = shame;
                best = way;
            }
        }
        return what == 0 ? best : least;
    }

    public int way(int walker, int square, int what) {
        if (!now.isWalker(walker)) {
            return refuseApart(NOBODY);
        }
        if (what < 0 || what > 2) {
            return refuseApart(BEYOND);
        }
        if (!now.isYard(square)) {
            return refuseApart(WRONG);
        }
        int at = now.whereIs(walker);
        ways.measure(now, square, Ways.SHAME);
        if (!ways.leadsFrom(at)) {
            return NONE;
        }
        switch (what) {
            case 0:
                return ways.priceFrom(at) / Ways.SHAME;
            case 1:
                return ways.priceFrom(at) % Ways.SHAME;
            default:
                return ways.firstFrom(now, at);
        }
    }

    // ---- what the panes tell ----

    public int cover(int s) {
        int trouble = squaresTrouble(s);
        if (trouble != FINE) {
            return refuseApart(trouble);
        }
        sight.take(now, now.houses);
        return sight.fewestFor(shelves[s].squares());
    }

    public int sole() {
        sight.take(now, now.houses);
        return sight.mostAlone();
    }

    public int where(int panes, int what) {
        if (what < 0 || what > 1) {
            return refuseApart(BEYOND);
        }
        if (panes < 0 || panes > now.allPanes()) {
            return refuseApart(WRONG);
        }
        sight.take(now, now.houses);
        int many = 0;
        int first = NONE;
        for (int square = 0; square < SQUARES; square++) {
            if (now.isYard(square) && sight.thatSee(square) == panes) {
                first = first == NONE ? square : first;
                many++;
            }
        }
        return what == 0 ? many : first;
    }

    public int ask(int s) {
        int trouble = squaresTrouble(s);
        if (trouble != FINE) {
            return refuseApart(trouble);
        }
        if (shelves[s].size < 2) {
            return NONE;
        }
        sight.take(now, now.houses);
        return sight.bestParting(shelves[s]);
    }

    public int fresh(int square) {
        if (!now.isYard(square)) {
            return refuseApart(WRONG);
        }
        for (int at = 0; at < SQUARES; at++) {
            for (int way = 0; way < WAYS && now.isHouse(at); way++) {
                if (Grid.has(Grid.line(now.houses, at, way, now.reach), square)) {
                    return 10 * at + way;
                }
            }
        }
        return NONE;
    }

    public int housed(int what) {
        if (what < 0 || what > 1) {
            return refuseApart(BEYOND);
        }
        int best = NONE;
        int fewest = NONE;
        for (int square = 0; square < SQUARES; square++) {
            if (now.isYard(square) && !now.isSomebodyAt(square)) {
                sight.take(now, Grid.with(now.houses, square));
                int many = Integer.bitCount(now.walkersIn(sight.union()));
                if (best == NONE || many < fewest) {
                    best = square;
                    fewest = many;
                }
            }
        }
        return what == 0 ? best : fewest;
    }

    public int meet(int walker, int other, int what) {
        if (!now.isWalker(walker) || !now.isWalker(other)) {
            return refuseApart(NOBODY);
        }
        if (what < 0 || what > 1) {
            return refuseApart(BEYOND);
        }
        if (walker == other) {
            return refuseApart(WRONG);
        }
        ways.measure(now, now.whereIs(walker), 0);
        otherWays.measure(now, now.whereIs(other), 0);
        int best = NONE;
        int fewest = NONE;
        for (int square = 0; square < SQUARES; square++) {
            if (ways.leadsFrom(square) && otherWays.leadsFrom(square)) {
                int steps = ways.priceFrom(square) + otherWays.priceFrom(square);
                if (best == NONE || steps < fewest) {
                    best = square;
                    fewest = steps;
                }
            }
        }
        return what == 0 ? fewest : best;
    }

    // ---- walks and days ----

    public int judge(int s, int walker, int n) {
        int trouble = walkTrouble(s, walker, n, true);
        if (trouble != FINE) {
            return refuseApart(trouble);
        }
        walk.follow(now, walker, shelves[s], n);
        return walk.wrong;
    }

    public int behind(int s, int walker, int n, int what) {
        int trouble = walkTrouble(s, walker, n, what >= 0 && what <= 2);
        if (trouble != FINE) {
            return refuse(trouble);
        }
        walk.follow(now, walker, shelves[s], n);
        if (walk.wrong != NONE) {
            return refuse(WRONG);
        }
        switch (what) {
            case 0:
                return walk.shame;
            case 1:
                return walk.at;
            default:
                return Integer.bitCount(walk.lookedIn);
        }
    }

    public int done(int s, int walker, int n) {
        int trouble = walkTrouble(s, walker, n, true);
        if (trouble != FINE) {
            return refuse(trouble);
        }
        walk.follow(now, walker, shelves[s], n);
        if (walk.wrong != NONE) {
            return refuse(WRONG);
        }
        now.place(walker, walk.at, walk.faces);
        now.bear(walker, walk.shame);
        return now.shame;
    }

    public int days(int n) {
        if (now.walkers == 0) {
            return refuse(BEYOND);
        }
        if (n < 1 || n > MOST_DAYS) {
            return refuse(WRONG);
        }
        for (int i = 0; i < n; i++) {
            now.liveOneDay();
        }
        return now.shame;
    }

    public int seed(int v) {
        int was = now.seed;
        now.seed = v;
        return was;
    }

    // ---- moves, the image, the numbers of it all ----

    public int act(int pane, int move, int x) {
        moves.forget();
        if (!now.isPane(pane) || !Moves.isMove(move)) {
            return 0;
        }
        return moves.make(pane, now.kindOf(pane), now.aOf(pane), move, x);
    }

    public int trace(int i) {
        return moves.bodyAt(i);
    }

    public int image() {
        kept.become(now);
        keeps = true;
        return kept.panes;
    }

    public int restore() {
        if (!keeps) {
            return refuse(WRONG);
        }
        now.become(kept);
        for (int s = 0; s < SHELVES; s++) {
            if (shelves[s].isPane() && !now.isPane(shelves[s].held)) {
                shelves[s].holdPane(NONE);
            }
        }
        return now.panes;
    }

    public int status(int what) {
        switch (what) {
            case 0:
                return now.panes;
            case 1:
                return now.walkers;
            case 2:
                return Long.bitCount(now.houses);
            case 3:
                return now.reach;
            case 4:
                return now.days;
            case 5:
                return now.shame;
            case 6:
                return now.triedTogether();
            case 7:
                return now.seed;
            case 8:
                return moves.ran;
            default:
                return refusalsOf(what - 10);
        }
    }

    // ---- refusals ----

    private int refuse(int refusal) {
        int i = -refusal;
        if (i >= 0 && i < refusals.length) {
            refusals[i]++;
        }
        return refusal;
    }

    private int refuseApart(int refusal) {
        return refuse(refusal) - APART;
    }

    private int refusalsOf(int i) {
        return i >= 1 && i < refusals.length ? refusals[i] : NONE;
    }

    /** What stands against taking a shelf for one with a row: a refusal, or FINE. */
    private int rowTrouble(int s) {
        if (!isShelf(s)) {
            return NOBODY;
        }
        if (shelves[s].isPane()) {
            return OTHER;
        }
        return shelves[s].isRow() ? FINE : NOTHING;
    }

    private int copyTrouble(int p, int q, int i, int j, int n) {
        if (!isShelf(p) || !isShelf(q)) {
            return NOBODY;
        }
        Shelf from = shelves[p];
        Shelf to = shelves[q];
        if (from.isPane() || to.isPane()) {
            return OTHER;
        }
        if (from.isRow() && to.isRow() && from.held != to.held) {
            return OTHER;
        }
        if (!from.isRow() || !to.isRow()) {
            return NOTHING;
        }
        if (n < 0) {
            return BELOW;
        }
        return from.hasElements(i, n) && to.hasElements(j, n) ? FINE : BEYOND;
    }

    private int squaresTrouble(int s) {
        int trouble = rowTrouble(s);
        if (trouble != FINE) {
            return trouble;
        }
        for (int i = 0; i < shelves[s].size; i++) {
            if (!Grid.isSquare(shelves[s].intAt(i))) {
                return WRONG;
            }
        }
        return FINE;
    }

    private int walkTrouble(int s, int walker, int n, boolean isKnown) {
        if (!isShelf(s) || !now.isWalker(walker)) {
            return NOBODY;
        }
        int trouble = rowTrouble(s);
        if (trouble != FINE) {
            return trouble;
        }
        if (n < 0) {
            return BELOW;
        }
        if (!isKnown || !shelves[s].hasElements(0, n)) {
            return BEYOND;
        }
        return n > MOST_STEPS ? WRONG : FINE;
    }

    // ---- what may be ----

    private static boolean isShelf(int s) {
        return s >= 0 && s < SHELVES;
    }

    private static boolean isKind(int kind) {
        return kind >= 0 && kind < KINDS;
    }

    private static boolean isReach(int v) {
        return v >= 1 && v <= MOST_REACH;
    }

    private static int above(int kind) {
        return isKind(kind) ? ABOVE[kind] : NONE;
    }

    private static boolean isUnder(int kind, int wanted) {
        int one = kind;
        for (int i = 0; i < KINDS && one != NONE; i++) {
            if (one == wanted) {
                return true;
            }
            one = above(one);
        }
        return false;
    }

    private int panesThatSee(int square) {
        sight.take(now, now.houses);
        return sight.thatSee(square);
    }

    /** The squares and how they lie; sets of them are the bits of a long. */
    private static final class Grid {
        static boolean isSquare(int square) {
            return square >= 0 && square < SQUARES;
        }

        static boolean isWay(int way) {
            return way >= 0 && way < WAYS;
        }

        static int opposite(int way) {
            return SOUTH - way;
        }

        static boolean has(long squares, int square) {
            return square >= 0 && square < SQUARES && (squares >>> square & 1L) != 0L;
        }

        static long with(long squares, int square) {
            return square >= 0 && square < SQUARES ? squares | 1L << square : squares;
        }

        static long without(long squares, int square) {
            return square >= 0 && square < SQUARES ? squares & ~(1L << square) : squares;
        }

        /** The square next to one on a way; NONE at the edge. */
        static int beside(int square, int way) {
            if (square < 0 || square >= SQUARES) {
                return NONE;
            }
            switch (way) {
                case NORTH:
                    return square >= SIDE ? square - SIDE : NONE;
                case WEST:
                    return square % SIDE > 0 ? square - 1 : NONE;
                case EAST:
                    return square % SIDE < SIDE - 1 ? square + 1 : NONE;
                case SOUTH:
                    return square < SQUARES - SIDE ? square + SIDE : NONE;
                default:
                    return NONE;
            }
        }

        static long line(long houses, int from, int way, int reach) {
            long line = 0L;
            int at = beside(from, way);
            for (int i = 0; i < reach && at != NONE && !has(houses, at); i++) {
                line = with(line, at);
                at = beside(at, way);
            }
            return line;
        }

        /** A line, and of its first two squares those beside them, across it. */
        static long wideLine(long houses, int from, int way, int reach) {
            long line = line(houses, from, way, reach);
            long wide = line;
            int at = from;
            for (int i = 0; i < 2; i++) {
                at = beside(at, way);
                if (has(line, at)) {
                    wide |= across(houses, at, way);
                }
            }
            return wide;
        }

        private static long across(long houses, int square, int way) {
            long sides = 0L;
            for (int side = 0; side < WAYS; side++) {
                int at = beside(square, side);
                if (side != way && side != opposite(way) && !has(houses, at)) {
                    sides = with(sides, at);
                }
            }
            return sides;
        }
    }

    /** All that an image keeps. */
    private static final class Town {
        long houses = 0L;
        int panes = 0;
        int walkers = 0;
        int reach = 4;
        int days = 0;
        int shame = 0;
        int seed = 1;
        private final int[] paneKind = new int[MOST_PANES];
        private final int[] paneA = new int[MOST_PANES];
        private final int[] paneAt = new int[MOST_PANES];
        private final int[] paneOut = new int[MOST_PANES];
        private final int[] walkerAt = new int[MOST_WALKERS];
        private final int[] walkerFaces = new int[MOST_WALKERS];
        private final int[] walkerTried = new int[MOST_WALKERS];

        void become(Town other) {
            houses = other.houses;
            panes = other.panes;
            walkers = other.walkers;
            reach = other.reach;
            days = other.days;
            shame = other.shame;
            seed = other.seed;
            for (int i = 0; i < MOST_PANES; i++) {
                paneKind[i] = other.paneKind[i];
                paneA[i] = other.paneA[i];
                paneAt[i] = other.paneAt[i];
                paneOut[i] = other.paneOut[i];
            }
            for (int i = 0; i < MOST_WALKERS; i++) {
                walkerAt[i] = other.walkerAt[i];
                walkerFaces[i] = other.walkerFaces[i];
                walkerTried[i] = other.walkerTried[i];
            }
        }

        boolean isHouse(int square) {
            return Grid.has(houses, square);
        }

        boolean isYard(int square) {
            return Grid.isSquare(square) && !isHouse(square);
        }

        void build(int square, boolean is) {
            houses = is ? Grid.with(houses, square) : Grid.without(houses, square);
        }

        boolean isPane(int pane) {
            return pane >= 0 && pane < panes && pane < MOST_PANES;
        }

        boolean isPaneAt(int square) {
            for (int pane = 0; pane < panes && pane < MOST_PANES; pane++) {
                if (paneAt[pane] == square) {
                    return true;
                }
            }
            return false;
        }

        boolean hasRoomForPane() {
            return panes < MOST_PANES;
        }

        int addPane(int kind, int a, int at, int out) {
            int pane = panes;
            if (pane < 0 || pane >= MOST_PANES) {
                return NONE;
            }
            paneKind[pane] = kind;
            paneA[pane] = a;
            paneAt[pane] = at;
            paneOut[pane] = out;
            panes++;
            return pane;
        }

        int kindOf(int pane) {
            return isPane(pane) ? paneKind[pane] : NONE;
        }

        int aOf(int pane) {
            return isPane(pane) ? paneA[pane] : 0;
        }

        int atOf(int pane) {
            return isPane(pane) ? paneAt[pane] : NONE;
        }

        int outOf(int pane) {
            return isPane(pane) ? paneOut[pane] : NONE;
        }

        /** The panes there are, as bits. */
        int allPanes() {
            return (1 << panes) - 1;
        }

        boolean isWalker(int walker) {
            return walker >= 0 && walker < walkers && walker < MOST_WALKERS;
        }

        boolean isSomebodyAt(int square) {
            for (int walker = 0; walker < walkers && walker < MOST_WALKERS; walker++) {
                if (walkerAt[walker] == square) {
                    return true;
                }
            }
            return false;
        }

        boolean hasRoomForWalker() {
            return walkers < MOST_WALKERS;
        }

        int addWalker(int at, int way) {
            int walker = walkers;
            if (walker < 0 || walker >= MOST_WALKERS) {
                return NONE;
            }
            walkerAt[walker] = at;
            walkerFaces[walker] = way;
            walkerTried[walker] = 0;
            walkers++;
            return walker;
        }

        int whereIs(int walker) {
            return isWalker(walker) ? walkerAt[walker] : NONE;
        }

        int facedBy(int walker) {
            return isWalker(walker) ? walkerFaces[walker] : NONE;
        }

        int triedOf(int walker) {
            return isWalker(walker) ? walkerTried[walker] : 0;
        }

        int triedTogether() {
            int together = 0;
            for (int walker = 0; walker < walkers && walker < MOST_WALKERS; walker++) {
                together += walkerTried[walker];
            }
            return together;
        }

        void place(int walker, int square, int way) {
            if (isWalker(walker)) {
                walkerAt[walker] = square;
                walkerFaces[walker] = way;
            }
        }

        long sightOf(int pane) {
            return sightAmong(houses, pane);
        }

        /** What a pane would see if the houses were these. */
        long sightAmong(long built, int pane) {
            int at = atOf(pane);
            int out = outOf(pane);
            switch (kindOf(pane)) {
                case PANE:
                case MIRROR:
                case SHOP:
                    return Grid.line(built, at, out, reach);
                case BAY:
                    return Grid.wideLine(built, at, out, reach);
                case ATTIC:
                    return Grid.wideLine(built, at, out, reach + aOf(pane));
                default:
                    return 0L;
            }
        }

        int walkersIn(long squares) {
            int in = 0;
            for (int walker = 0; walker < walkers && walker < MOST_WALKERS; walker++) {
                if (Grid.has(squares, walkerAt[walker])) {
                    in |= 1 << walker;
                }
            }
            return in;
        }

        int lookedInBy(int walker) {
            return lookedInFrom(whereIs(walker), facedBy(walker));
        }

        int shameFrom(int square, int way) {
            return Integer.bitCount(lookedInFrom(square, way));
        }

        /** The panes, as bits, that somebody at a square, facing a way, looks in at. */
        int lookedInFrom(int square, int way) {
            int at = square;
            for (int off = 1; off <= reach; off++) {
                at = Grid.beside(at, way);
                if (isHouse(at)) {
                    return openTo(at, Grid.opposite(way), off);
                }
            }
            return 0;
        }

        private int openTo(int house, int out, int off) {
            int open = 0;
            for (int pane = 0; pane < panes && pane < MOST_PANES; pane++) {
                if (paneAt[pane] == house && paneOut[pane] == out && letsIn(paneKind[pane], paneA[pane], off)) {
                    open |= 1 << pane;
                }
            }
            return open;
        }

        private static boolean letsIn(int kind, int a, int off) {
            switch (kind) {
                case MIRROR:
                    return false;
                case SHOP:
                    return off == 1;
                case CURTAINED:
                    return off <= a + 1;
                default:
                    return true;
            }
        }

        /** A walker's shame comes upon the town. */
        void bear(int walker, int more) {
            shame += more;
            if (more > 0 && isWalker(walker)) {
                walkerTried[walker]++;
            }
        }

        void liveOneDay() {
            days++;
            for (int walker = 0; walker < walkers && walker < MOST_WALKERS; walker++) {
                int way = draw(WAYS);
                int next = Grid.beside(walkerAt[walker], way);
                place(walker, isYard(next) ? next : walkerAt[walker], way);
            }
            for (int walker = 0; walker < walkers && walker < MOST_WALKERS; walker++) {
                bear(walker, Integer.bitCount(lookedInBy(walker)));
            }
        }

        private int draw(int below) {
            seed = seed * 1103515245 + 12345;
            return below > 0 ? (seed >>> 16) % below : 0;
        }
    }

    /** What a shelf holds: nothing, a pane's number, or a row, whose elements are used again for the next. */
    private static final class Shelf {
        private static final int BYTES = 0;
        private static final int SHORTS = 1;
        private static final int INTS = 2;
        private static final int LONGS = 3;
        private static final int ROW = 100;

        int held = NONE;
        int size = 0;
        private final long[] elements = new long[MOST_ELEMENTS];

        static boolean isSort(int sort) {
            return sort >= BYTES && sort <= LONGS;
        }

        boolean isRow() {
            return held >= ROW;
        }

        boolean isPane() {
            return held != NONE && held < ROW;
        }

        void holdPane(int pane) {
            held = pane;
            size = 0;
        }

        void holdRow(int sort, int n) {
            held = ROW + sort;
            size = n;
            for (int i = 0; i < MOST_ELEMENTS; i++) {
                elements[i] = 0L;
            }
        }

        boolean hasElement(int i) {
            return i >= 0 && i < size && i < MOST_ELEMENTS;
        }

        boolean hasElements(int from, int n) {
            return from >= 0 && from <= size && n >= 0 && n <= size - from;
        }

        long longAt(int i) {
            return hasElement(i) ? elements[i] : 0L;
        }

        int intAt(int i) {
            return (int) longAt(i);
        }

        void keep(int i, long v) {
            if (hasElement(i)) {
                elements[i] = lowestBits(v);
            }
        }

        private long lowestBits(long v) {
            switch (held - ROW) {
                case BYTES:
                    return (byte) v;
                case SHORTS:
                    return (short) v;
                case INTS:
                    return (int) v;
                default:
                    return v;
            }
        }

        void takeFrom(Shelf other, int from, int to, int n) {
            if (other.hasElements(from, n) && hasElements(to, n)) {
                System.arraycopy(other.elements, from, elements, to, n);
            }
        }

        /** The elements as a set of squares. */
        long squares() {
            long squares = 0L;
            for (int i = 0; i < size; i++) {
                squares = Grid.with(squares, intAt(i));
            }
            return squares;
        }
    }

    /** What each pane sees, taken once for a question to all of them. */
    private static final class Sight {
        private int panes = 0;
        private final long[] sees = new long[MOST_PANES];

        void take(Town town, long houses) {
            panes = Math.min(town.panes, MOST_PANES);
            for (int pane = 0; pane < MOST_PANES; pane++) {
                sees[pane] = town.sightAmong(houses, pane);
            }
        }

        long union() {
            return unionOf((1 << MOST_PANES) - 1);
        }

        private long unionOf(int some) {
            long union = 0L;
            for (int pane = 0; pane < MOST_PANES; pane++) {
                if ((some >>> pane & 1) != 0) {
                    union |= sees[pane];
                }
            }
            return union;
        }

        int thatSee(int square) {
            int that = 0;
            for (int pane = 0; pane < MOST_PANES; pane++) {
                if (Grid.has(sees[pane], square)) {
                    that |= 1 << pane;
                }
            }
            return that;
        }

        int fewestFor(long squares) {
            int best = NONE;
            for (int some = 0; some < 1 << panes; some++) {
                boolean isFewer = best == NONE || Integer.bitCount(some) < Integer.bitCount(best);
                if (isFewer && (squares & ~unionOf(some)) == 0L) {
                    best = some;
                }
            }
            return best;
        }

        int mostAlone() {
            int best = NONE;
            int most = NONE;
            int everyPane = (1 << MOST_PANES) - 1;
            for (int pane = 0; pane < panes; pane++) {
                int alone = Long.bitCount(sees[pane] & ~unionOf(everyPane & ~(1 << pane)));
                if (alone > most) {
                    best = pane;
                    most = alone;
                }
            }
            return best;
        }

        int bestParting(Shelf told) {
            int best = NONE;
            int fewest = NONE;
            for (int pane = 0; pane < panes; pane++) {
                int seen = 0;
                for (int i = 0; i < told.size; i++) {
                    seen += Grid.has(sees[pane], told.intAt(i)) ? 1 : 0;
                }
                int left = Math.max(seen, told.size - seen);
                if (best == NONE || left < fewest) {
                    best = pane;
                    fewest = left;
                }
            }
            return best;
        }
    }

    /** What it costs to come to one goal from every square. */
    private static final class Ways {
        /** The price of one shame, a step being 1: above the steps of any way, which passes no square twice. */
        static final int SHAME = 100;
        private static final int NEVER = 1000000;

        private long settled = 0L;
        private final int[] prices = new int[SQUARES];

        /** From the goal backwards, always on from the cheapest square that is not settled. */
        void measure(Town town, int goal, int shamePrice) {
            settled = 0L;
            for (int square = 0; square < SQUARES; square++) {
                prices[square] = square == goal ? 0 : NEVER;
            }
            for (int i = 0; i < SQUARES; i++) {
                int square = cheapestOpen();
                settled = Grid.with(settled, square);
                for (int way = 0; way < WAYS; way++) {
                    int from = Grid.beside(square, Grid.opposite(way));
                    if (leadsFrom(square) && town.isYard(from)) {
                        lower(from, prices[square] + stepPrice(town, square, way, shamePrice));
                    }
                }
            }
        }

        private int cheapestOpen() {
            int best = NONE;
            for (int square = 0; square < SQUARES; square++) {
                if (!Grid.has(settled, square) && (best == NONE || prices[square] < prices[best])) {
                    best = square;
                }
            }
            return best;
        }

        private void lower(int square, int price) {
            if (Grid.isSquare(square)) {
                prices[square] = Math.min(prices[square], price);
            }
        }

        /** The price of coming to a square by a step on a way. */
        private static int stepPrice(Town town, int square, int way, int shamePrice) {
            return shamePrice == 0 ? 1 : shamePrice * town.shameFrom(square, way) + 1;
        }

        int priceFrom(int square) {
            return Grid.isSquare(square) ? prices[square] : NEVER;
        }

        boolean leadsFrom(int square) {
            return priceFrom(square) < NEVER;
        }

        /** The first way of those that cost least, shame counted; NONE at the goal. */
        int firstFrom(Town town, int square) {
            for (int way = 0; way < WAYS; way++) {
                int next = Grid.beside(square, way);
                if (leadsFrom(next)
                        && priceFrom(next) + stepPrice(town, next, way, SHAME) == priceFrom(square)) {
                    return way;
                }
            }
            return NONE;
        }
    }

    /** A told walk, as far as it can be. */
    private static final class Walk {
        int wrong = NONE;
        int at = NONE;
        int faces = NONE;
        int shame = 0;
        int lookedIn = 0;

        void follow(Town town, int walker, Shelf told, int n) {
            wrong = NONE;
            at = town.whereIs(walker);
            faces = town.facedBy(walker);
            shame = 0;
            lookedIn = 0;
            for (int i = 0; i < n && wrong == NONE; i++) {
                int way = told.intAt(i);
                int next = Grid.beside(at, way);
                if (town.isYard(next)) {
                    at = next;
                    faces = way;
                    int looked = town.lookedInFrom(at, faces);
                    shame += Integer.bitCount(looked);
                    lookedIn |= looked;
                } else {
                    wrong = i;
                }
            }
        }
    }

    /** Reads a town from letters into a draft, so that a fault leaves the town itself as it was. */
    private static final class Reader {
        final Town draft = new Town();
        int fault = NONE;
        private final int[] letters = new int[MOST_ELEMENTS];
        private int size = 0;
        private int place = 0;
        private int numberPlace = 0;

        /** How many items; NONE if there is a fault. */
        int readOver(Town town, Shelf row) {
            draft.become(town);
            size = Math.min(row.size, MOST_ELEMENTS);
            for (int i = 0; i < size; i++) {
                letters[i] = row.intAt(i);
            }
            place = 0;
            fault = NONE;
            for (int items = 1; items <= MOST_ELEMENTS; items++) {
                readItem();
                if (fault == NONE && place == size) {
                    return items;
                }
                expect(';');
                if (fault != NONE) {
                    return NONE;
                }
            }
            return NONE;
        }

        private void readItem() {
            switch (letter()) {
                case 'h':
                    readHouse();
                    break;
                case 'y':
                    readYard();
                    break;
                case 'p':
                    readPane();
                    break;
                case 'w':
                    readWalker();
                    break;
                case 'r':
                    readReach();
                    break;
                default:
                    fault = place;
                    break;
            }
        }

        private void readHouse() {
            expectWord("house");
            int square = readNumber();
            allow(Grid.isSquare(square) && !draft.isSomebodyAt(square));
            if (fault == NONE) {
                draft.build(square, true);
            }
        }

        private void readYard() {
            expectWord("yard");
            int square = readNumber();
            allow(Grid.isSquare(square) && !draft.isPaneAt(square));
            if (fault == NONE) {
                draft.build(square, false);
            }
        }

        private void readPane() {
            int start = place;
            expectWord("pane");
            if (fault == NONE && !draft.hasRoomForPane()) {
                fault = start;
            }
            int kind = readNumber();
            allow(isKind(kind));
            int a = readNumber();
            allow(a <= MOST_A);
            int at = readNumber();
            allow(draft.isHouse(at));
            int way = readNumber();
            allow(Grid.isWay(way));
            if (fault == NONE) {
                draft.addPane(kind, a, at, way);
            }
        }

        private void readWalker() {
            int start = place;
            expectWord("walker");
            if (fault == NONE && !draft.hasRoomForWalker()) {
                fault = start;
            }
            int at = readNumber();
            allow(draft.isYard(at));
            int way = readNumber();
            allow(Grid.isWay(way));
            if (fault == NONE) {
                draft.addWalker(at, way);
            }
        }

        private void readReach() {
            expectWord("reach");
            int v = readNumber();
            allow(isReach(v));
            if (fault == NONE) {
                draft.reach = v;
            }
        }

        /** The letter at the place; behind the end one that no text has. */
        private int letter() {
            return place >= 0 && place < size ? letters[place] : NONE;
        }

        /** Once there is a fault nothing more is read, so that the first one stays. */
        private void expect(int letter) {
            if (fault != NONE) {
                return;
            }
            if (letter() == letter) {
                place++;
            } else {
                fault = place;
            }
        }

        private void expectWord(String word) {
            for (int i = 0; i < word.length(); i++) {
                expect(word.charAt(i));
            }
        }

        /** A blank and a number; 0 once there is a fault. */
        private int readNumber() {
            expect(' ');
            if (fault != NONE) {
                return 0;
            }
            numberPlace = place;
            if (!isDigit()) {
                fault = place;
                return 0;
            }
            int number = takeDigit();
            return isDigit() ? 10 * number + takeDigit() : number;
        }

        private boolean isDigit() {
            return letter() >= '0' && letter() <= '9';
        }

        private int takeDigit() {
            int digit = letter() - '0';
            place++;
            return digit;
        }

        /** The latest number is a fault, if it may not be. */
        private void allow(boolean mayBe) {
            if (fault == NONE && !mayBe) {
                fault = numberPlace;
            }
        }
    }

    /** What panes do when they act, body by body, and the trace of it. */
    private static final class Moves {
        private static final int MOVES = 3;
        private static final int OPENS = 0;
        private static final int SHUTS = 1;
        private static final int SHINES = 2;
        private static final int KEPT = 20;
        /** Far above the few bodies that can stand open at once. */
        private static final int DEEPEST = 40;
        /** By kinds, and of each by moves: the body of its own, or NONE. */
        private static final int[] BODIES = {
            10, 11, 12,
            20, NONE, NONE,
            NONE, 30, NONE,
            40, NONE, NONE,
            51, NONE, 50,
            NONE, NONE, 60,
            70, 71, NONE,
        };

        int ran = 0;
        private final int[] bodies = new int[KEPT];
        private int number = 0;
        private int kind = PANE;
        private int a = 0;

        static boolean isMove(int move) {
            return move >= 0 && move < MOVES;
        }

        void forget() {
            ran = 0;
        }

        int bodyAt(int i) {
            return i >= 0 && i < ran && i < KEPT ? bodies[i] : NONE;
        }

        int make(int paneNumber, int paneKind, int paneA, int move, int x) {
            number = paneNumber;
            kind = paneKind;
            a = paneA;
            return run(this, kind, move, x, 0);
        }

        /** The body of a move that a kind has, or the next one above it. */
        private static int run(Moves acting, int from, int move, int x, int depth) {
            int body = bodyOf(from, move);
            if (body == NONE || depth > DEEPEST) {
                return 0;
            }
            acting.note(body);
            int deeper = depth + 1;
            switch (body) {
                case 10:
                    return x + acting.number;
                case 11:
                    return run(acting, acting.kind, OPENS, x, deeper) * 2;
                case 12:
                    return run(acting, acting.kind, SHUTS, x, deeper)
                            ^ run(acting, acting.kind, OPENS, x - acting.a, deeper);
                case 20:
                    return run(acting, above(MIRROR), OPENS, x, deeper) + acting.a;
                case 30:
                    return run(acting, above(CURTAINED), SHUTS, x, deeper) * 3;
                case 40:
                    return run(acting, above(SHOP), OPENS, x + 1, deeper);
                case 50:
                    return -run(acting, above(BAY), SHINES, x, deeper);
                case 51:
                    return run(acting, above(BAY), OPENS, x, deeper) - acting.number;
                case 60:
                    return run(acting, above(ATTIC), SHINES, x, deeper) ^ 5;
                case 70:
                    return run(acting, above(BLIND), OPENS, x, deeper) * 2;
                case 71:
                    return run(acting, above(BLIND), SHUTS, x - acting.a, deeper);
                default:
                    return 0;
            }
        }

        private static int bodyOf(int from, int move) {
            int one = from;
            for (int i = 0; i < KINDS && isKind(one) && isMove(move); i++) {
                int body = BODIES[one * MOVES + move];
                if (body != NONE) {
                    return body;
                }
                one = above(one);
            }
            return NONE;
        }

        private void note(int body) {
            if (ran >= 0 && ran < KEPT) {
                bodies[ran] = body;
            }
            ran++;
        }
    }
}
