import java.util.ArrayList;
import java.util.List;
import java.util.Random;

/** Runs of drawn calls, put to the class and to the Model: every answer must be the same. */
public final class ModelTest {
    private static final int RUNS = 1500;
    private static final int CALLS = 512;
    private static final String[] NAMES = {
        "row", "set", "copy", "element", "show", "holds", "says", "house", "pane", "walker", "put", "reach",
        "paneOf", "walkerOf", "town", "fault", "seen", "looks", "all", "turn", "way", "cover", "sole", "where",
        "ask", "fresh", "housed", "meet", "judge", "behind", "done", "days", "seed", "act", "trace", "image",
        "restore", "status",
    };

    private final Random draw;
    private WindowsLookedOut x;
    private Model model;
    private final List<String> told = new ArrayList<>();
    private boolean wrong = false;

    private ModelTest(long seed) {
        draw = new Random(seed);
    }

    public static void main(String[] args) {
        int bad = 0;
        long calls = 0;
        for (int run = 0; run < RUNS && bad < 5; run++) {
            ModelTest test = new ModelTest(run);
            test.run();
            calls += test.told.size();
            if (test.wrong) {
                bad++;
                int size = test.told.size();
                System.out.println("run " + run + ", the last calls:");
                test.told.subList(Math.max(0, size - 170), size).forEach(System.out::println);
            }
        }
        System.out.println("ModelTest: " + calls + " calls, " + bad + " runs not as due");
        if (bad != 0) {
            System.exit(1);
        }
    }

    private void run() {
        x = new WindowsLookedOut();
        model = new Model();
        int houses = draw.nextInt(22);
        for (int i = 0; i < houses; i++) {
            ask("house", draw.nextInt(49), 1);
        }
        int panes = draw.nextInt(11);
        for (int i = 0; i < panes; i++) {
            ask("pane", draw.nextInt(7), draw.nextInt(10), aHouse(), draw.nextInt(4));
        }
        int walkers = draw.nextInt(6);
        for (int i = 0; i < walkers; i++) {
            ask("walker", draw.nextInt(49), draw.nextInt(4));
        }
        while (told.size() < CALLS && !wrong) {
            int kind = draw.nextInt(40);
            if (kind == 0) {
                askText();
            } else if (kind == 1) {
                askSquares();
            } else if (kind == 2) {
                askWalk();
            } else {
                askOne(NAMES[draw.nextInt(NAMES.length)]);
            }
        }
    }

    // ---- arguments: mostly such as may be ----

    private int upTo(int n) {
        int odd = draw.nextInt(24);
        if (odd == 0) {
            int[] wild = {-1, n, n + 1, -2, Integer.MAX_VALUE, Integer.MIN_VALUE, 1 << 16, 64, -9, 255};
            return wild[draw.nextInt(wild.length)];
        }
        return n <= 0 ? 0 : draw.nextInt(n);
    }

    private int aHouse() {
        int at = draw.nextInt(49);
        for (int i = 0; i < 49 && !model.house[at]; i++) {
            at = (at + 1) % 49;
        }
        return draw.nextInt(24) == 0 ? upTo(49) : at;
    }

    private int aYard() {
        int at = draw.nextInt(49);
        for (int i = 0; i < 49 && model.house[at]; i++) {
            at = (at + 1) % 49;
        }
        return draw.nextInt(10) == 0 ? upTo(49) : at;
    }

    private int aShelf() {
        return draw.nextInt(30) == 0 ? upTo(8) : draw.nextInt(5);
    }

    private int aPane() {
        return upTo(model.panes.size());
    }

    private int aWalker() {
        return upTo(model.walkers.size());
    }

    private int aSize(int s) {
        return Model.isShelf(s) && model.shelves[s] instanceof Model.Row
            ? ((Model.Row) model.shelves[s]).elements.length : 3;
    }

    private void askOne(String name) {
        int s = aShelf();
        switch (name) {
            case "row": ask(name, s, draw.nextInt(12) == 0 ? upTo(4) : draw.nextInt(2) * 2,
                draw.nextInt(8) == 0 ? draw.nextInt(170) : upTo(12)); break;
            case "set": ask(name, s, upTo(aSize(s)), draw.nextInt(3) == 0 ? draw.nextLong() : upTo(49)); break;
            case "copy": {
                int q = aShelf();
                int n = upTo(Math.min(aSize(s), aSize(q)) + 1);
                ask(name, s, q, upTo(aSize(s) - n + 1), upTo(aSize(q) - n + 1), n);
                break;
            }
            case "element": ask(name, s, upTo(aSize(s))); break;
            case "show": ask(name, s, draw.nextInt(5) == 0 ? -1 : aPane()); break;
            case "holds": ask(name, s); break;
            case "says": ask(name, s, upTo(7)); break;
            case "house": ask(name, upTo(49), draw.nextInt(2)); break;
            case "pane": ask(name, upTo(7), upTo(10), aHouse(), upTo(4)); break;
            case "walker": ask(name, aYard(), upTo(4)); break;
            case "put": ask(name, aWalker(), aYard(), upTo(4)); break;
            case "reach": ask(name, 1 + upTo(6)); break;
            case "paneOf": ask(name, aPane(), upTo(6)); break;
            case "walkerOf": ask(name, aWalker(), upTo(6)); break;
            case "town": case "cover": case "ask": ask(name, s); break;
            case "seen": ask(name, upTo(49), upTo(2)); break;
            case "looks": ask(name, aYard(), upTo(4)); break;
            case "turn": ask(name, aWalker(), upTo(2)); break;
            case "way": ask(name, aWalker(), aYard(), upTo(3)); break;
            case "where": ask(name, draw.nextInt(3) == 0 ? aSeenAt() : upTo(1 << model.panes.size()), upTo(2)); break;
            case "fresh": ask(name, aYard()); break;
            case "housed": ask(name, upTo(2)); break;
            case "meet": ask(name, aWalker(), aWalker(), upTo(2)); break;
            case "judge": case "done": ask(name, s, aWalker(), upTo(aSize(s) + 1)); break;
            case "behind": ask(name, s, aWalker(), upTo(aSize(s) + 1), upTo(3)); break;
            case "days": ask(name, draw.nextInt(6) == 0 ? upTo(62) : 1 + upTo(5)); break;
            case "seed": ask(name, draw.nextInt()); break;
            case "act": ask(name, aPane(), upTo(3), draw.nextInt(3) == 0 ? draw.nextInt() : upTo(100));
                for (int i = 0; i < draw.nextInt(12); i++) {
                    ask("trace", i);
                }
                break;
            case "trace": ask(name, upTo(22)); break;
            case "image": case "restore":
                if (draw.nextInt(3) == 0) {
                    ask(name);
                }
                break;
            case "status": ask(name, upTo(20)); break;
            default: ask(name); break;
        }
    }

    private int aSeenAt() {
        return Model.bits(model.seers(draw.nextInt(49)));
    }

    private void askSquares() {
        int s = aShelf();
        int n = draw.nextInt(7);
        ask("row", s, draw.nextInt(4), n);
        for (int i = 0; i < n; i++) {
            int square = draw.nextInt(49);
            for (int k = 0; k < 49 && draw.nextInt(30) > 0 && model.seers(square).isEmpty(); k++) {
                square = (square + 1) % 49;
            }
            ask("set", s, i, square);
        }
        ask("cover", s);
        ask("ask", s);
    }

    private void askWalk() {
        if (model.walkers.isEmpty()) {
            return;
        }
        int s = aShelf();
        int w = aWalker();
        int n = draw.nextInt(draw.nextInt(6) == 0 ? 70 : 9);
        ask("row", s, draw.nextInt(4), n);
        int at = model.isWalker(w) ? model.walkers.get(w).at : 0;
        for (int i = 0; i < n; i++) {
            int way = draw.nextInt(4);
            for (int k = 0; k < 4; k++) {
                Integer next = model.next(at, way);
                if (next != null && !model.house[next] && draw.nextInt(40) > 0) {
                    at = next;
                    break;
                }
                way = (way + 1) % 4;
            }
            ask("set", s, i, draw.nextInt(200) == 0 ? upTo(4) : way);
        }
        ask("judge", s, w, n);
        for (int what = 0; what < 3; what++) {
            ask("behind", s, w, n, what);
        }
        ask("done", s, w, n);
    }

    private void askText() {
        StringBuilder text = new StringBuilder();
        int items = 1 + draw.nextInt(draw.nextInt(4) == 0 ? 12 : 4);
        for (int i = 0; i < items; i++) {
            text.append(i == 0 ? "" : ";").append(anItem());
        }
        if (draw.nextInt(3) == 0) {
            int place = draw.nextInt(text.length());
            String signs = " ;0123456789hypwrxeka";
            char sign = signs.charAt(draw.nextInt(signs.length()));
            switch (draw.nextInt(4)) {
                case 0: text.setLength(place); break;
                case 1: text.setCharAt(place, sign); break;
                case 2: text.insert(place, sign); break;
                default: text.deleteCharAt(place); break;
            }
        }
        int n = Math.min(160, text.length());
        ask("row", 6, draw.nextInt(8) == 0 ? draw.nextInt(4) : 0, n);
        for (int i = 0; i < n; i++) {
            ask("set", 6, i, text.charAt(i));
        }
        ask("town", 6);
        ask("fault");
        ask("status", 2);
    }

    private String anItem() {
        switch (draw.nextInt(5)) {
            case 0: return "house " + aNumber(draw.nextInt(60) == 0 ? 50 : 49);
            case 1: return "yard " + aNumber(49);
            case 2: return "pane " + aNumber(7) + " " + aNumber(10) + " " + aHouseNow() + " " + aNumber(4);
            case 3: return "walker " + Math.max(0, Math.min(99, aYard())) + " " + aNumber(4);
            default: return "reach " + (1 + draw.nextInt(draw.nextInt(20) == 0 ? 8 : 6));
        }
    }

    private int aHouseNow() {
        return Math.max(0, Math.min(99, aHouse()));
    }

    private String aNumber(int n) {
        int v = draw.nextInt(60) == 0 ? draw.nextInt(100) : draw.nextInt(n);
        return v < 10 && draw.nextInt(10) == 0 ? "0" + v : "" + v;
    }

    // ---- the call itself ----

    private void ask(String name, long... a) {
        if (told.size() >= CALLS || wrong) {
            return;
        }
        long want = model.call(name, a);
        String call = name + java.util.Arrays.toString(a);
        long got;
        try {
            got = answer(name, a);
        } catch (RuntimeException thrown) {
            told.add(call + " threw " + thrown);
            wrong = true;
            return;
        }
        told.add(call + " answered " + got + (got == want ? "" : ", due is " + want));
        wrong = got != want;
    }

    private long answer(String name, long[] a) {
        int[] i = new int[5];
        for (int k = 0; k < a.length; k++) {
            i[k] = (int) a[k];
        }
        switch (name) {
            case "row": return x.row(i[0], i[1], i[2]);
            case "set": return x.set(i[0], i[1], a[2]);
            case "copy": return x.copy(i[0], i[1], i[2], i[3], i[4]);
            case "element": return x.element(i[0], i[1]);
            case "show": return x.show(i[0], i[1]);
            case "holds": return x.holds(i[0]);
            case "says": return x.says(i[0], i[1]);
            case "house": return x.house(i[0], i[1] != 0);
            case "pane": return x.pane(i[0], i[1], i[2], i[3]);
            case "walker": return x.walker(i[0], i[1]);
            case "put": return x.put(i[0], i[1], i[2]);
            case "reach": return x.reach(i[0]);
            case "paneOf": return x.paneOf(i[0], i[1]);
            case "walkerOf": return x.walkerOf(i[0], i[1]);
            case "town": return x.town(i[0]);
            case "fault": return x.fault();
            case "seen": return x.seen(i[0], i[1]);
            case "looks": return x.looks(i[0], i[1]);
            case "all": return x.all();
            default: return answerFurther(name, i);
        }
    }

    private long answerFurther(String name, int[] i) {
        switch (name) {
            case "turn": return x.turn(i[0], i[1]);
            case "way": return x.way(i[0], i[1], i[2]);
            case "cover": return x.cover(i[0]);
            case "sole": return x.sole();
            case "where": return x.where(i[0], i[1]);
            case "ask": return x.ask(i[0]);
            case "fresh": return x.fresh(i[0]);
            case "housed": return x.housed(i[0]);
            case "meet": return x.meet(i[0], i[1], i[2]);
            case "judge": return x.judge(i[0], i[1], i[2]);
            case "behind": return x.behind(i[0], i[1], i[2], i[3]);
            case "done": return x.done(i[0], i[1], i[2]);
            case "days": return x.days(i[0]);
            case "seed": return x.seed(i[0]);
            case "act": return x.act(i[0], i[1], i[2]);
            case "trace": return x.trace(i[0]);
            case "image": return x.image();
            case "restore": return x.restore();
            case "status": return x.status(i[0]);
            default: throw new IllegalStateException(name);
        }
    }
}
