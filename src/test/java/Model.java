import java.util.ArrayDeque;
import java.util.ArrayList;
import java.util.Arrays;
import java.util.HashMap;
import java.util.HashSet;
import java.util.List;
import java.util.Map;
import java.util.Set;
import java.util.TreeSet;

/**
 * The document said a second time, as slowly and plainly as the Java library allows, and written
 * without a look at the class: panes are a tree of Java classes, sets are sets, ways are searched
 * by trying everything until nothing gets better.
 */
final class Model {
    static final int[] DR = {-1, 0, 0, 1};
    static final int[] DC = {0, -1, 1, 0};
    static final int[] BACK = {3, 2, 1, 0};

    /** A refusal: its number, and whether the call tells it ten lower. */
    static final class No extends RuntimeException {
        private static final long serialVersionUID = 1L;
        final int number;

        No(int number) {
            super("", null, false, false);
            this.number = number;
        }
    }

    static class Pane {
        int m;
        int k;
        int at;
        int way;
        List<Integer> ran;

        int kind() {
            return 0;
        }

        Set<Integer> sees(Model t) {
            return new HashSet<>(t.line(at, way, t.reach));
        }

        boolean lets(int off) {
            return true;
        }

        int opens(int x) {
            ran.add(10);
            return x + m;
        }

        int shuts(int x) {
            ran.add(11);
            return opens(x) * 2;
        }

        int shines(int x) {
            ran.add(12);
            int first = shuts(x);
            return first ^ opens(x - k);
        }

        int tells(int kind, Model t) {
            switch (kind) {
                case 0: return at;
                case 1: case 3: return way;
                case 2: case 6: return k;
                default: return sees(t).size();
            }
        }
    }

    static class Mirror extends Pane {
        int kind() {
            return 1;
        }

        boolean lets(int off) {
            return false;
        }

        int opens(int x) {
            ran.add(20);
            return super.opens(x) + k;
        }
    }

    static final class Shop extends Mirror {
        int kind() {
            return 3;
        }

        boolean lets(int off) {
            return off == 1;
        }

        int opens(int x) {
            ran.add(40);
            return super.opens(x + 1);
        }
    }

    static class Curtained extends Pane {
        int kind() {
            return 2;
        }

        Set<Integer> sees(Model t) {
            return new HashSet<>();
        }

        boolean lets(int off) {
            return off <= k + 1;
        }

        int shuts(int x) {
            ran.add(30);
            return super.shuts(x) * 3;
        }
    }

    static final class Blind extends Curtained {
        int kind() {
            return 6;
        }

        boolean lets(int off) {
            return true;
        }

        int opens(int x) {
            ran.add(70);
            return super.opens(x) * 2;
        }

        int shuts(int x) {
            ran.add(71);
            return super.shuts(x - k);
        }
    }

    static class Bay extends Pane {
        int kind() {
            return 4;
        }

        int far(Model t) {
            return t.reach;
        }

        Set<Integer> sees(Model t) {
            List<Integer> line = t.line(at, way, far(t));
            Set<Integer> all = new HashSet<>(line);
            for (int square : line.subList(0, Math.min(2, line.size()))) {
                int[] across = way == 0 || way == 3 ? new int[] {1, 2} : new int[] {0, 3};
                for (int side : across) {
                    Integer next = t.next(square, side);
                    if (next != null && !t.house[next]) {
                        all.add(next);
                    }
                }
            }
            return all;
        }

        int shines(int x) {
            ran.add(50);
            return -super.shines(x);
        }

        int opens(int x) {
            ran.add(51);
            return super.opens(x) - m;
        }
    }

    static final class Attic extends Bay {
        int kind() {
            return 5;
        }

        int far(Model t) {
            return t.reach + k;
        }

        int shines(int x) {
            ran.add(60);
            return super.shines(x) ^ 5;
        }
    }

    static final class Walker {
        int at;
        int way;
        int tried;

        Walker copy() {
            Walker w = new Walker();
            w.at = at;
            w.way = way;
            w.tried = tried;
            return w;
        }
    }

    static final class Row {
        int sort;
        long[] elements;
    }

    boolean[] house = new boolean[49];
    List<Pane> panes = new ArrayList<>();
    List<Walker> walkers = new ArrayList<>();
    int reach = 4;
    int days = 0;
    int shame = 0;
    int seed = 1;
    final Object[] shelves = new Object[8];
    final int[] refused = new int[8];
    List<Integer> ran = new ArrayList<>();
    int fault = -1;
    Model picture;

    Model copyOfTown() {
        Model t = new Model();
        t.house = house.clone();
        t.panes = new ArrayList<>(panes);
        for (Walker w : walkers) {
            t.walkers.add(w.copy());
        }
        t.reach = reach;
        t.days = days;
        t.shame = shame;
        t.seed = seed;
        return t;
    }

    void takeTown(Model other) {
        Model t = other.copyOfTown();
        house = t.house;
        panes = t.panes;
        walkers = t.walkers;
        reach = t.reach;
        days = t.days;
        shame = t.shame;
        seed = t.seed;
    }

    // ---- the ground ----

    static boolean isSquare(long s) {
        return 0 <= s && s <= 48;
    }

    static boolean isWay(long w) {
        return 0 <= w && w <= 3;
    }

    boolean free(long s) {
        return isSquare(s) && !house[(int) s];
    }

    boolean somebody(int s) {
        return walkers.stream().anyMatch(w -> w.at == s);
    }

    boolean paneAt(int s) {
        return panes.stream().anyMatch(p -> p.at == s);
    }

    Integer next(int s, int way) {
        int r = s / 7 + DR[way];
        int c = s % 7 + DC[way];
        return r < 0 || r > 6 || c < 0 || c > 6 ? null : Integer.valueOf(7 * r + c);
    }

    List<Integer> line(int s, int way, int far) {
        List<Integer> line = new ArrayList<>();
        Integer at = next(s, way);
        while (at != null && !house[at] && line.size() < far) {
            line.add(at);
            at = next(at, way);
        }
        return line;
    }

    Set<Integer> lookedIn(int s, int way) {
        Set<Integer> in = new TreeSet<>();
        int off = 1;
        Integer at = next(s, way);
        while (at != null && !house[at]) {
            at = next(at, way);
            off++;
        }
        if (at == null || off > reach) {
            return in;
        }
        for (int i = 0; i < panes.size(); i++) {
            Pane p = panes.get(i);
            if (p.at == at && p.way == BACK[way] && p.lets(off)) {
                in.add(i);
            }
        }
        return in;
    }

    static int bits(Set<Integer> set) {
        int bits = 0;
        for (int i : set) {
            bits += 1 << i;
        }
        return bits;
    }

    Set<Integer> seers(int s) {
        Set<Integer> seers = new TreeSet<>();
        for (int i = 0; i < panes.size(); i++) {
            if (panes.get(i).sees(this).contains(s)) {
                seers.add(i);
            }
        }
        return seers;
    }

    int inSight() {
        int many = 0;
        for (Walker w : walkers) {
            many += seers(w.at).isEmpty() ? 0 : 1;
        }
        return many;
    }

    // ---- refusals ----

    static void no(boolean is, int number) {
        if (is) {
            throw new No(number);
        }
    }

    static boolean isShelf(int s) {
        return 0 <= s && s <= 7;
    }

    boolean isPane(int p) {
        return 0 <= p && p < panes.size();
    }

    boolean isWalker(int w) {
        return 0 <= w && w < walkers.size();
    }

    Row rowIn(int s) {
        no(!isShelf(s), -1);
        no(shelves[s] instanceof Integer, -2);
        no(shelves[s] == null, -3);
        return (Row) shelves[s];
    }

    int[] squaresIn(int s) {
        Row row = rowIn(s);
        int[] squares = new int[row.elements.length];
        for (int i = 0; i < squares.length; i++) {
            squares[i] = (int) row.elements[i];
            no(!isSquare(squares[i]), -6);
        }
        return squares;
    }

    // ---- the calls, by names ----

    /** What the call answers; a refusal is counted. */
    long call(String name, long... a) {
        int[] i = new int[a.length];
        for (int k = 0; k < a.length; k++) {
            i[k] = (int) a[k];
        }
        try {
            switch (name) {
                case "row": return row(i[0], i[1], i[2]);
                case "set": return set(i[0], i[1], a[2]);
                case "copy": return copy(i[0], i[1], i[2], i[3], i[4]);
                case "element": return element(i[0], i[1]);
                case "show": return show(i[0], i[1]);
                case "holds": return holds(i[0]);
                case "says": return says(i[0], i[1]);
                case "house": return house(i[0], i[1] != 0);
                case "pane": return pane(i[0], i[1], i[2], i[3]);
                case "walker": return walker(i[0], i[1]);
                case "put": return put(i[0], i[1], i[2]);
                case "reach": return reach(i[0]);
                case "paneOf": return paneOf(i[0], i[1]);
                case "walkerOf": return walkerOf(i[0], i[1]);
                case "town": return town(i[0]);
                case "fault": return fault;
                case "days": return days(i[0]);
                case "seed": return seed(i[0]);
                case "act": return act(i[0], i[1], i[2]);
                case "trace": return i[0] >= 0 && i[0] < Math.min(20, ran.size()) ? ran.get(i[0]) : -1;
                case "image": return image();
                case "restore": return restore();
                case "status": return status(i[0]);
                case "turn": return turn(i[0], i[1]);
                case "behind": return told(i[0], i[1], i[2], i[3], 0);
                case "done": return told(i[0], i[1], i[2], 0, 1);
                default: break;
            }
        } catch (No no) {
            refused[-no.number]++;
            return no.number;
        }
        try {
            return apart(name, i);
        } catch (No no) {
            refused[-no.number]++;
            return no.number - 10;
        }
    }

    private long apart(String name, int[] i) {
        switch (name) {
            case "seen": return seen(i[0], i[1]);
            case "looks":
                no(!free(i[0]) || !isWay(i[1]), -6);
                return bits(lookedIn(i[0], i[1]));
            case "all": {
                Set<Integer> all = new HashSet<>();
                panes.forEach(p -> all.addAll(p.sees(this)));
                return all.size();
            }
            case "way": return way(i[0], i[1], i[2]);
            case "cover": return cover(i[0]);
            case "sole": return sole();
            case "where": return where(i[0], i[1]);
            case "ask": return ask(i[0]);
            case "fresh": return fresh(i[0]);
            case "housed": return housed(i[0]);
            case "meet": return meet(i[0], i[1], i[2]);
            case "judge": return told(i[0], i[1], i[2], 0, 2);
            default: throw new IllegalStateException(name);
        }
    }

    long row(int s, int sort, int n) {
        no(!isShelf(s), -1);
        no(n < 0, -4);
        no(sort < 0 || sort > 3, -6);
        no(n > 160, -7);
        Row row = new Row();
        row.sort = sort;
        row.elements = new long[n];
        shelves[s] = row;
        return 1;
    }

    long set(int s, int i, long v) {
        Row row = rowIn(s);
        no(i < 0 || i >= row.elements.length, -5);
        int bits = 8 << row.sort;
        row.elements[i] = v << (64 - bits) >> (64 - bits);
        return 1;
    }

    long copy(int p, int q, int i, int j, int n) {
        no(!isShelf(p) || !isShelf(q), -1);
        no(shelves[p] instanceof Integer || shelves[q] instanceof Integer, -2);
        boolean both = shelves[p] != null && shelves[q] != null;
        no(both && ((Row) shelves[p]).sort != ((Row) shelves[q]).sort, -2);
        no(!both, -3);
        no(n < 0, -4);
        long[] from = ((Row) shelves[p]).elements;
        long[] to = ((Row) shelves[q]).elements;
        no(i < 0 || j < 0 || (long) i + n > from.length || (long) j + n > to.length, -5);
        long[] ahead = from.clone();
        for (int k = 0; k < n; k++) {
            to[j + k] = ahead[i + k];
        }
        return 1;
    }

    long element(int s, int i) {
        if (!isShelf(s) || !(shelves[s] instanceof Row)) {
            return 0;
        }
        long[] elements = ((Row) shelves[s]).elements;
        return i < 0 || i >= elements.length ? 0 : elements[i];
    }

    long show(int s, int pane) {
        no(!isShelf(s), -1);
        no(pane != -1 && !isPane(pane), -1);
        shelves[s] = pane == -1 ? null : Integer.valueOf(pane);
        return pane == -1 ? 0 : 1;
    }

    long holds(int s) {
        if (!isShelf(s) || shelves[s] == null) {
            return -1;
        }
        return shelves[s] instanceof Row ? 100 + ((Row) shelves[s]).sort : (Integer) shelves[s];
    }

    long says(int s, int kind) {
        no(!isShelf(s) || kind < 0 || kind > 6, -1);
        no(shelves[s] instanceof Row, -2);
        no(shelves[s] == null, -3);
        Pane p = panes.get((Integer) shelves[s]);
        Class<?>[] kinds = {Pane.class, Mirror.class, Curtained.class, Shop.class, Bay.class, Attic.class,
            Blind.class};
        no(!kinds[kind].isInstance(p), -2);
        return p.tells(kind, this);
    }

    long house(int s, boolean is) {
        no(!isSquare(s), -6);
        no(somebody(s), -6);
        no(!is && paneAt(s), -6);
        boolean was = house[s];
        house[s] = is;
        return was ? 1 : 0;
    }

    Pane newPane(int kind) {
        switch (kind) {
            case 0: return new Pane();
            case 1: return new Mirror();
            case 2: return new Curtained();
            case 3: return new Shop();
            case 4: return new Bay();
            case 5: return new Attic();
            default: return new Blind();
        }
    }

    long pane(int kind, int a, int at, int way) {
        no(kind < 0 || kind > 6, -1);
        no(a < 0 || a > 9 || !isSquare(at) || !isWay(way), -6);
        no(!house[at], -6);
        no(panes.size() >= 9, -7);
        Pane p = newPane(kind);
        p.m = panes.size();
        p.k = a;
        p.at = at;
        p.way = way;
        panes.add(p);
        return p.m;
    }

    long walker(int at, int way) {
        no(!free(at) || !isWay(way), -6);
        no(walkers.size() >= 5, -7);
        Walker w = new Walker();
        w.at = at;
        w.way = way;
        walkers.add(w);
        return walkers.size() - 1;
    }

    long put(int walker, int s, int way) {
        no(!isWalker(walker), -1);
        no(!free(s) || !isWay(way), -6);
        Walker w = walkers.get(walker);
        int was = w.at;
        w.at = s;
        w.way = way;
        return was;
    }

    long reach(int v) {
        no(v < 1 || v > 6, -6);
        int was = reach;
        reach = v;
        return was;
    }

    long paneOf(int pane, int what) {
        no(!isPane(pane) || what < 0 || what > 5, -5);
        Pane p = panes.get(pane);
        Set<Integer> sees = p.sees(this);
        Set<Integer> in = new HashSet<>();
        for (int w = 0; w < walkers.size(); w++) {
            if (sees.contains(walkers.get(w).at)) {
                in.add(w);
            }
        }
        return new int[] {p.kind(), p.k, p.at, p.way, sees.size(), bits(in)}[what];
    }

    long walkerOf(int walker, int what) {
        no(!isWalker(walker) || what < 0 || what > 5, -5);
        Walker w = walkers.get(walker);
        Set<Integer> in = lookedIn(w.at, w.way);
        return new int[] {w.at, w.way, w.tried, in.size(), bits(in), bits(seers(w.at))}[what];
    }

    // ---- texts ----

    /** The place of a fault. */
    static final class Bad extends Exception {
        private static final long serialVersionUID = 1L;
        final int place;

        Bad(int place) {
            super("", null, false, false);
            this.place = place;
        }
    }

    long town(int s) {
        Row row = rowIn(s);
        int[] text = new int[row.elements.length];
        for (int i = 0; i < text.length; i++) {
            text[i] = (int) row.elements[i];
        }
        Model t = copyOfTown();
        try {
            int items = t.readAll(text);
            fault = -1;
            takeTown(t);
            return items;
        } catch (Bad bad) {
            fault = bad.place;
            throw new No(-6);
        }
    }

    /** Items end at a ; or at the end; each is matched against the five words. */
    int readAll(int[] text) throws Bad {
        int items = 0;
        int place = 0;
        while (true) {
            place = readOne(text, place);
            items++;
            if (place == text.length) {
                return items;
            }
            if (text[place] != ';') {
                throw new Bad(place);
            }
            place++;
        }
    }

    int readOne(int[] text, int start) throws Bad {
        String[] words = {"house", "yard", "pane", "walker", "reach"};
        String[] numbers = {"h", "y", "KACW", "cW", "r"};
        for (int k = 0; k < 5; k++) {
            if (start < text.length && text[start] == words[k].charAt(0)) {
                int place = start;
                for (char c : words[k].toCharArray()) {
                    if (place >= text.length || text[place] != c) {
                        throw new Bad(place);
                    }
                    place++;
                }
                if (k == 2 && panes.size() == 9 || k == 3 && walkers.size() == 5) {
                    throw new Bad(start);
                }
                List<Integer> values = new ArrayList<>();
                for (char c : numbers[k].toCharArray()) {
                    if (place >= text.length || text[place] != ' ') {
                        throw new Bad(place);
                    }
                    place++;
                    int end = place;
                    StringBuilder digits = new StringBuilder();
                    while (end < text.length && end < place + 2 && text[end] >= '0' && text[end] <= '9') {
                        digits.append((char) text[end]);
                        end++;
                    }
                    if (digits.length() == 0 || !mayBe(c, Integer.parseInt(digits.toString()))) {
                        throw new Bad(place);
                    }
                    values.add(Integer.parseInt(digits.toString()));
                    place = end;
                }
                carryOut(k, values);
                return place;
            }
        }
        throw new Bad(start);
    }

    boolean mayBe(char c, int v) {
        switch (c) {
            case 'h': return isSquare(v) && !somebody(v);
            case 'y': return isSquare(v) && !paneAt(v);
            case 'K': return v <= 6;
            case 'A': return v <= 9;
            case 'C': return isSquare(v) && house[v];
            case 'c': return free(v);
            case 'W': return isWay(v);
            default: return v >= 1 && v <= 6;
        }
    }

    void carryOut(int k, List<Integer> v) {
        switch (k) {
            case 0: house[v.get(0)] = true; break;
            case 1: house[v.get(0)] = false; break;
            case 2: pane(v.get(0), v.get(1), v.get(2), v.get(3)); break;
            case 3: walker(v.get(0), v.get(1)); break;
            default: reach = v.get(0); break;
        }
    }

    // ---- what comes of it ----

    long seen(int s, int what) {
        no(what < 0 || what > 1, -5);
        no(!isSquare(s), -6);
        return what == 1 ? (house[s] ? 1 : 0) : bits(seers(s));
    }

    long turn(int walker, int what) {
        no(!isWalker(walker), -1);
        no(what < 0 || what > 1, -5);
        Walker w = walkers.get(walker);
        int[] shames = new int[4];
        for (int way = 0; way < 4; way++) {
            shames[way] = lookedIn(w.at, way).size();
        }
        int least = Arrays.stream(shames).min().getAsInt();
        for (int way = 0; way < 4; way++) {
            if (shames[way] == least) {
                return what == 0 ? way : least;
            }
        }
        throw new IllegalStateException();
    }

    /** By rounds: the best there is with at most so many steps, until 49 of them are tried. */
    long way(int walker, int goal, int what) {
        no(!isWalker(walker), -1);
        no(what < 0 || what > 2, -5);
        no(!free(goal), -6);
        int start = walkers.get(walker).at;
        if (start == goal) {
            return what == 2 ? -1 : 0;
        }
        // of each square: shame, steps, first way of the best way there from the start
        Map<Integer, int[]> best = new HashMap<>();
        best.put(start, new int[] {0, 0, -1});
        boolean better = true;
        while (better) {
            better = false;
            for (int s = 0; s < 49; s++) {
                int[] here = best.get(s);
                for (int way = 0; here != null && way < 4; way++) {
                    Integer to = next(s, way);
                    if (to == null || house[to]) {
                        continue;
                    }
                    int[] there = {here[0] + lookedIn(to, way).size(), here[1] + 1, s == start ? way : here[2]};
                    int[] old = best.get(to);
                    if (old == null || Arrays.compare(there, old) < 0) {
                        best.put(to, there);
                        better = true;
                    }
                }
            }
        }
        int[] end = best.get(goal);
        return end == null ? -1 : end[what];
    }

    long cover(int s) {
        int[] told = squaresIn(s);
        int best = -1;
        for (int some = (1 << panes.size()) - 1; some >= 0; some--) {
            boolean all = true;
            for (int square : told) {
                all &= (bits(seers(square)) & some) != 0;
            }
            if (all && (best == -1 || Integer.bitCount(some) <= Integer.bitCount(best))) {
                best = some;
            }
        }
        return best;
    }

    long sole() {
        int[] alone = new int[9];
        for (int square = 0; square < 49; square++) {
            Set<Integer> seers = seers(square);
            if (seers.size() == 1) {
                alone[seers.iterator().next()]++;
            }
        }
        int best = -1;
        for (int p = panes.size() - 1; p >= 0; p--) {
            best = best == -1 || alone[p] >= alone[best] ? p : best;
        }
        return best;
    }

    long where(int told, int what) {
        no(what < 0 || what > 1, -5);
        no((told & ~((1 << panes.size()) - 1)) != 0, -6);
        List<Integer> that = new ArrayList<>();
        for (int s = 0; s < 49; s++) {
            if (!house[s] && bits(seers(s)) == told) {
                that.add(s);
            }
        }
        return what == 0 ? that.size() : that.isEmpty() ? -1 : that.get(0);
    }

    long ask(int s) {
        int[] told = squaresIn(s);
        if (told.length < 2 || panes.isEmpty()) {
            return -1;
        }
        int best = -1;
        int least = 1000;
        for (int p = 0; p < panes.size(); p++) {
            int yes = 0;
            int not = 0;
            for (int square : told) {
                if (seers(square).contains(p)) {
                    yes++;
                } else {
                    not++;
                }
            }
            if (Math.max(yes, not) < least) {
                least = Math.max(yes, not);
                best = p;
            }
        }
        return best;
    }

    /** Back from the square: the first house on each way, if the line from it comes so far. */
    long fresh(int s) {
        no(!free(s), -6);
        int best = -1;
        for (int way = 0; way < 4; way++) {
            int off = 1;
            Integer at = next(s, way);
            while (at != null && !house[at]) {
                at = next(at, way);
                off++;
            }
            if (at != null && off <= reach) {
                int answer = 10 * at + BACK[way];
                best = best == -1 ? answer : Math.min(best, answer);
            }
        }
        return best;
    }

    long housed(int what) {
        no(what < 0 || what > 1, -5);
        int best = -1;
        int least = -1;
        for (int s = 48; s >= 0; s--) {
            if (!house[s] && !somebody(s)) {
                house[s] = true;
                int many = inSight();
                house[s] = false;
                if (best == -1 || many <= least) {
                    best = s;
                    least = many;
                }
            }
        }
        return what == 0 ? best : least;
    }

    int[] stepsFrom(int start) {
        int[] steps = new int[49];
        Arrays.fill(steps, -1);
        steps[start] = 0;
        ArrayDeque<Integer> open = new ArrayDeque<>(List.of(start));
        while (!open.isEmpty()) {
            int s = open.remove();
            for (int way = 0; way < 4; way++) {
                Integer to = next(s, way);
                if (to != null && !house[to] && steps[to] == -1) {
                    steps[to] = steps[s] + 1;
                    open.add(to);
                }
            }
        }
        return steps;
    }

    long meet(int walker, int other, int what) {
        no(!isWalker(walker) || !isWalker(other), -1);
        no(what < 0 || what > 1, -5);
        no(walker == other, -6);
        int[] one = stepsFrom(walkers.get(walker).at);
        int[] two = stepsFrom(walkers.get(other).at);
        int best = -1;
        for (int s = 48; s >= 0; s--) {
            if (one[s] >= 0 && two[s] >= 0 && (best == -1 || one[s] + two[s] <= one[best] + two[best])) {
                best = s;
            }
        }
        return best == -1 ? -1 : what == 0 ? one[best] + two[best] : best;
    }

    // ---- walks ----

    /** end: 0 behind, 1 done, 2 judge. */
    long told(int s, int walker, int n, int what, int end) {
        no(!isShelf(s) || !isWalker(walker), -1);
        Row row = rowIn(s);
        no(n < 0, -4);
        no(n > row.elements.length || what < 0 || what > 2, -5);
        no(n > 60, -6);
        Walker w = walkers.get(walker).copy();
        int together = 0;
        Set<Integer> in = new HashSet<>();
        for (int i = 0; i < n; i++) {
            int way = (int) row.elements[i];
            Integer to = isWay(way) ? next(w.at, way) : null;
            if (to == null || house[to]) {
                no(end != 2, -6);
                return i;
            }
            w.at = to;
            w.way = way;
            Set<Integer> now = lookedIn(to, way);
            together += now.size();
            in.addAll(now);
        }
        if (end == 2) {
            return -1;
        }
        if (end == 0) {
            return new int[] {together, w.at, in.size()}[what];
        }
        if (together > 0) {
            w.tried++;
        }
        shame += together;
        walkers.set(walker, w);
        return shame;
    }

    int draw(int n) {
        seed = seed * 1103515245 + 12345;
        return (seed >> 16 & 0xffff) % n;
    }

    long days(int n) {
        no(walkers.isEmpty(), -5);
        no(n < 1 || n > 60, -6);
        for (int i = 0; i < n; i++) {
            days++;
            for (Walker w : walkers) {
                w.way = draw(4);
                Integer to = next(w.at, w.way);
                if (to != null && !house[to]) {
                    w.at = to;
                }
            }
            for (Walker w : walkers) {
                int more = lookedIn(w.at, w.way).size();
                w.tried += more > 0 ? 1 : 0;
                shame += more;
            }
        }
        return shame;
    }

    long seed(int v) {
        int was = seed;
        seed = v;
        return was;
    }

    long act(int pane, int move, int x) {
        ran = new ArrayList<>();
        if (!isPane(pane) || move < 0 || move > 2) {
            return 0;
        }
        Pane p = panes.get(pane);
        p.ran = ran;
        return move == 0 ? p.opens(x) : move == 1 ? p.shuts(x) : p.shines(x);
    }

    long image() {
        picture = copyOfTown();
        return panes.size();
    }

    long restore() {
        no(picture == null, -6);
        takeTown(picture);
        for (int s = 0; s < 8; s++) {
            if (shelves[s] instanceof Integer && (Integer) shelves[s] >= panes.size()) {
                shelves[s] = null;
            }
        }
        return panes.size();
    }

    long status(int what) {
        switch (what) {
            case 0: return panes.size();
            case 1: return walkers.size();
            case 2: {
                int many = 0;
                for (boolean h : house) {
                    many += h ? 1 : 0;
                }
                return many;
            }
            case 3: return reach;
            case 4: return days;
            case 5: return shame;
            case 6: return walkers.stream().mapToInt(w -> w.tried).sum();
            case 7: return seed;
            case 8: return ran.size();
            default: return what >= 11 && what <= 17 ? refused[what - 10] : -1;
        }
    }
}
