import java.util.ArrayList;
import java.util.List;
import java.util.Random;

/** Runs of calls drawn by seeds: AskNext must answer each as Model does. */
public final class ModelTest {
    private static final int RUNS = 400;
    private static final int CALLS = 200;
    private static final int SWAYING_RUNS = 150;
    private static final int SEEDS = 20;

    private final Checks checks = new Checks();
    private final List<String> told = new ArrayList<>();
    private Random random = new Random(0);
    private AskNext x = new AskNext();
    private Model m = new Model();
    private int thereLast = 0;
    private int lostLast = 0;

    public static void main(String[] args) {
        ModelTest test = new ModelTest();
        int first = args.length > 0 ? Integer.parseInt(args[0]) : 1;
        int runs = args.length > 1 ? Integer.parseInt(args[1]) : RUNS;
        for (int run = first; run < first + runs; run++) {
            test.run(run);
        }
        for (int run = first; run < first + Math.min(runs, SWAYING_RUNS); run++) {
            test.sway(run);
        }
        if (runs >= SWAYING_RUNS) {
            test.checks.isTrue("some walks were there with the 200th step", test.thereLast > 0);
            test.checks.isTrue("some walks were lost after it", test.lostLast > 0);
        }
        test.checks.end("ModelTest");
    }

    private void run(int seed) {
        random = new Random(seed);
        x = new AskNext();
        m = new Model();
        told.clear();
        if (seed % 8 != 0) {
            tellWholeLand();
        }
        for (int i = 0; i < CALLS; i++) {
            call(random.nextInt(40));
        }
    }

    /** Long walks, by seeds one behind the other: those who are met mostly send one back. */
    private void sway(int seed) {
        random = new Random(seed);
        x = new AskNext();
        m = new Model();
        told.clear();
        int worlds = tellSwayingLand();
        int first = random.nextInt();
        for (int kind = 3; kind <= 4; kind++) {
            int figure = upTo(3) > 0 ? 99 : 50 + upTo(50);
            same("keep 2 1 " + kind + " " + figure, x.keep(2, 1, kind, figure), m.keep(2, 1, kind, figure));
            for (int z = first; z < first + SEEDS; z++) {
                for (int w = 0; w < worlds; w++) {
                    swayOnce(w, z);
                }
            }
            same("mean 2 " + first, x.mean(2, SEEDS, first), m.mean(2, SEEDS, first));
            int minute = 199 + upTo(3);
            same("dusk 2 " + minute, x.dusk(2, SEEDS, first, minute), m.dusk(2, SEEDS, first, minute));
        }
        best(2, first);
        same("post " + first, x.post(2, first), m.post(2, first));
    }

    private void swayOnce(int w, int z) {
        for (int what = 0; what <= 2; what++) {
            same("by 2 " + w + " " + z + " " + what, x.by(2, w, z, what), m.by(2, w, z, what));
        }
        if (m.by(2, w, z, 2) == 200) {
            boolean lost = m.by(2, w, z, 0) == 99999;
            lostLast += lost ? 1 : 0;
            thereLast += lost ? 0 : 1;
        }
    }

    private int tellSwayingLand() {
        boolean third = random.nextInt(3) == 0;
        int first = third ? 1 : 0;
        int knowing = 1 + upTo(2);
        tell("r01 " + (1 + upTo(3)) + ";r12 1;r23 1;" + (random.nextBoolean() ? "r24 9;" : "r34 60;"));
        tell((third ? "w34 " + (4 + upTo(2)) + " " + upTo(2) * 8 + ";w33 0 0;w33 3 0;" : "w50 0 0;w50 3 0;"));
        tell("s0 0;s1 " + first + ";s1 " + (first + 1) + ";a" + upTo(3) + ";b" + (1 + upTo(2)) + ";");
        tell("m10 " + knowing + ";m12 " + (100 - knowing) + ";m20 " + knowing + ";m21 " + (100 - knowing) + ";");
        return third ? 3 : 2;
    }

    private void same(String call, long got, long want) {
        checks.due(got == want ? call : String.join("\n", told) + "\n" + call, got, want);
        told.add(call + " " + want);
    }

    private int upTo(int n) {
        return random.nextInt(n);
    }

    /** Mostly 0 .. n less 1; at times an edge or something far out. */
    private int about(int n) {
        switch (random.nextInt(24)) {
            case 0: return -1;
            case 1: return n;
            case 2: return random.nextInt();
            case 3: return random.nextBoolean() ? Integer.MIN_VALUE : Integer.MAX_VALUE;
            default: return upTo(Math.max(n, 1));
        }
    }

    private void tell(String text) {
        int size = Math.min(text.length(), 100);
        x.row(0, 0, size);
        m.row(0, 0, size);
        for (int i = 0; i < size; i++) {
            x.put(0, i, text.charAt(i));
            m.put(0, i, text.charAt(i));
        }
        same("land " + text, x.land(0), m.land(0));
    }

    private void tellWholeLand() {
        int crossings = 2 + upTo(7);
        StringBuilder roads = new StringBuilder();
        int roadCount = 1 + upTo(12);
        for (int r = 0; r < roadCount; r++) {
            int a = upTo(crossings);
            int b = (a + 1 + upTo(crossings - 1)) % crossings;
            roads.append("r").append(a).append(b).append(" ").append(1 + upTo(random.nextBoolean() ? 5 : 60)).append(";");
        }
        tell(roads.toString());
        tell(worlds(crossings, roadCount));
        StringBuilder sorts = new StringBuilder();
        int sortCount = 1 + upTo(6);
        for (int k = 0; k < sortCount; k++) {
            sorts.append("s").append(upTo(5)).append(" ").append(upTo(6)).append(";");
        }
        tell(sorts.append("a").append(upTo(4)).append(";b").append(upTo(crossings)).append(";").toString());
        for (int part = 0; part < 2; part++) {
            StringBuilder met = new StringBuilder();
            for (int c = part * 4; c < part * 4 + 4; c++) {
                int left = 100;
                for (int k = 0; k < 3 && left > 0; k++) {
                    int hundredths = random.nextInt(4) == 0 ? left : upTo(left + 1);
                    left -= hundredths;
                    met.append("m").append(c).append((c + k) % sortCount).append(" ").append(hundredths).append(";");
                }
            }
            tell(met.toString());
        }
    }

    private String worlds(int crossings, int roadCount) {
        StringBuilder text = new StringBuilder();
        int left = random.nextInt(6) == 0 ? 99 : 100;
        int n = 1 + upTo(5);
        for (int w = 0; w < n; w++) {
            int chance = w == n - 1 ? left : 1 + upTo(Math.max(1, left - (n - w)));
            left -= chance;
            int shut = random.nextInt(3) == 0 ? 0 : upTo(1 << roadCount) & upTo(1 << roadCount);
            text.append("w").append(chance).append(" ").append(upTo(crossings)).append(" ").append(shut).append(";");
        }
        return text.toString();
    }

    private String statement() {
        switch (upTo(8)) {
            case 0: return "r" + upTo(9) + upTo(9) + " " + upTo(62) + ";";
            case 1: return "w" + upTo(103) + " " + upTo(9) + " " + (random.nextInt(9) == 0 ? 65536 : upTo(65536)) + ";";
            case 2: return "s" + upTo(6) + " " + upTo(random.nextInt(9) == 0 ? 102 : 6) + ";";
            case 3: return "m" + upTo(9) + upTo(7) + " " + upTo(103) + ";";
            case 4: return "b" + upTo(9) + ";";
            case 5: return "a" + upTo(32) + ";";
            case 6: return "m" + upTo(8) + upTo(2) + " " + upTo(40) + ";";
            default: return "r" + upTo(8) + upTo(8) + " " + (1 + upTo(60)) + ";";
        }
    }

    private void tellSomething() {
        StringBuilder text = new StringBuilder();
        int n = upTo(4);
        for (int i = 0; i < n; i++) {
            text.append(statement());
        }
        if (random.nextInt(3) == 0 && text.length() > 0) {
            int at = upTo(text.length());
            String signs = "rwsmba 0123456789;x\u00ff";
            switch (upTo(4)) {
                case 0: text.deleteCharAt(at); break;
                case 1: text.insert(at, signs.charAt(upTo(signs.length()))); break;
                case 2: text.setCharAt(at, signs.charAt(upTo(signs.length()))); break;
                default: text.setLength(at);
            }
        }
        tell(text.toString());
    }

    private void call(int which) {
        int d = about(8);
        int c = about(8);
        int w = about(5);
        int z = random.nextInt(5) == 0 ? Integer.MAX_VALUE - upTo(3) : random.nextInt();
        int n = random.nextInt(9) == 0 ? about(22) : 1 + upTo(3);
        int answer = random.nextInt(3) == 0 ? -1 : w;
        switch (which) {
            case 0: tellSomething(); break;
            case 1: same("road", x.road(w, c), m.road(w, c)); break;
            case 2: same("world", x.world(w, c), m.world(w, c)); break;
            case 3: same("met", x.met(c, d), m.met(c, d)); break;
            case 4: int start = about(9); same("set 0 " + start, x.set(0, start), m.set(0, start)); break;
            case 5: int cost = about(32); same("set " + w + " " + cost, x.set(w, cost), m.set(w, cost)); break;
            case 6: same("way", x.way(w, c), m.way(w, c)); break;
            case 7: same("next", x.next(w, c), m.next(w, c)); break;
            case 8: same("says", x.says(d, c, w), m.says(d, c, w)); break;
            case 9: int a = about(6) - 1; same("chance", x.chance(c, a, w), m.chance(c, a, w)); break;
            case 10: same("anew", x.anew(), m.anew()); break;
            case 11:
            case 12: same("answer " + c + " " + answer, x.answer(c, answer), m.answer(c, answer)); break;
            case 13: boolean open = upTo(3) > 0; same("found", x.found(d, open), m.found(d, open)); break;
            case 14:
                int q = about(101);
                same("same " + c + " " + answer + " " + q, x.same(c, answer, q), m.same(c, answer, q));
                break;
            case 15:
            case 16: int part = about(2); same("think " + w + " " + part, x.think(w, part), m.think(w, part)); break;
            case 17: judge(); break;
            case 18: same("walk " + w + " " + c, x.walk(w, c), m.walk(w, c)); break;
            case 19: same("worth " + c, x.worth(c), m.worth(c)); break;
            case 20: same("never " + c, x.never(c), m.never(c)); break;
            case 21:
            case 22:
            case 23: byRule(d, w, z); break;
            case 24: d = keepRule(d); same("mean " + d, x.mean(d, n, z), m.mean(d, n, z)); break;
            case 25:
                d = keepRule(d);
                int minute = random.nextInt(4) == 0 ? about(10000) : about(60);
                same("dusk " + d, x.dusk(d, n, z, minute), m.dusk(d, n, z, minute));
                break;
            case 26: best(n, z); break;
            case 27: n = n > 3 ? n : 1; same("post " + n + " " + z, x.post(n, z), m.post(n, z)); break;
            case 28: same("image", x.image(), m.image()); break;
            case 29: same("restore", x.restore(), m.restore()); break;
            case 30: int what = about(6); same("count", x.count(what), m.count(what)); break;
            default: callShelves(which, d);
        }
    }

    private void callShelves(int which, int d) {
        int e = about(8);
        int i = about(4);
        int j = about(4);
        switch (which) {
            case 31:
                int k = about(6);
                int figure = random.nextBoolean() ? about(6) : about(100);
                int what = about(2);
                String call = "keep " + d + " " + what + " " + k + " " + figure;
                same(call, x.keep(d, what, k, figure), m.keep(d, what, k, figure));
                break;
            case 32: int size = about(5); same("row", x.row(d, i, size), m.row(d, i, size)); break;
            case 33: size = about(101); same("row", x.row(d, j, size), m.row(d, j, size)); break;
            case 34: int v = random.nextInt(); same("put", x.put(d, i, v), m.put(d, i, v)); break;
            case 35: same("element", element(d, i), modelElement(d, i)); break;
            case 36: int n = about(4); same("copy", x.copy(d, i, e, j, n), m.copy(d, i, e, j, n)); break;
            case 37: same("weight", x.weight(d), m.weight(d)); break;
            case 38: same("toss", x.toss(d), m.toss(d)); break;
            default: same("land " + d, x.land(d), m.land(d));
        }
    }

    private void judge() {
        int n = upTo(7);
        int sort = upTo(3);
        x.row(1, sort, n);
        m.row(1, sort, n);
        for (int i = 0; i < n; i++) {
            long weight = m.think(i, 0);
            int v = weight >= 0 ? (int) (100 * weight / m.think(i, 1)) : 0;
            v = random.nextInt(8) == 0 ? upTo(101) : random.nextInt(4) == 0 ? new int[] {-128, -32768, 1 << 31}[sort] : v;
            x.put(1, i, v);
            m.put(1, i, v);
        }
        same("judge", x.judge(1), m.judge(1));
    }

    /** Mostly a new rule on shelf 2; else what is on that shelf. */
    private int keepRule(int d) {
        if (random.nextInt(4) == 0) {
            return d;
        }
        int kind = upTo(6);
        int figure = kind == 2 || kind == 5 ? upTo(6) : upTo(100);
        same("keep 2 1 " + kind + " " + figure, x.keep(2, 1, kind, figure), m.keep(2, 1, kind, figure));
        return 2;
    }

    private void byRule(int shelf, int w, int z) {
        int d = keepRule(shelf);
        for (int what = -1; what <= 3; what++) {
            same("by " + d + " " + w + " " + z + " " + what, x.by(d, w, z, what), m.by(d, w, z, what));
        }
    }

    private void best(int n, int z) {
        int size = upTo(8);
        x.row(3, 0, size);
        m.row(3, 0, size);
        for (int i = 0; i < size; i++) {
            int kind = random.nextInt(40) == 0 ? 6 : upTo(6);
            x.put(3, i, kind);
            m.put(3, i, kind);
        }
        int figure = about(100);
        n = Math.min(n, 21);
        same("best " + n, x.best(3, figure, n, z), m.best(3, figure, n, z));
    }

    private long element(int d, int i) {
        int thrown = Checks.thrownByElement(x, d, i);
        return thrown == 0 ? x.element(d, i) : -5000000000L - thrown;
    }

    private long modelElement(int d, int i) {
        try {
            return m.element(d, i);
        } catch (IllegalArgumentException e) {
            return -5000000001L;
        } catch (IllegalStateException e) {
            return -5000000002L;
        }
    }
}
