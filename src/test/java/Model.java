import java.math.BigInteger;
import java.util.ArrayList;
import java.util.List;
import java.util.regex.Matcher;
import java.util.regex.Pattern;

/** The document told a second time, as plainly and slowly as can be, to compare AskNext with. */
final class Model {
    private static final long LONGS = -4000000000000000000L;
    private static final int FAR = 99999;
    private static final int NEVER_GONE = 99999;

    private record Road(int a, int b, int minutes) { }
    private record World(int chance, int goal, int shut) { }
    private record Sort(int kind, int figure) { }
    private record Rule(int kind, int figure) { }
    private record Walked(int minutes, int asked, int gone) { }

    private static final class Row {
        int sort;
        int[] at;
    }

    private static final class State {
        List<Road> roads = new ArrayList<>();
        List<World> worlds = new ArrayList<>();
        List<Sort> sorts = new ArrayList<>();
        int[][] met = new int[8][6];
        int start = 0;
        int cost = 2;
        long[] thought = new long[0];

        State copied() {
            State other = new State();
            other.roads.addAll(roads);
            other.worlds.addAll(worlds);
            other.sorts.addAll(sorts);
            for (int c = 0; c < 8; c++) {
                other.met[c] = met[c].clone();
            }
            other.start = start;
            other.cost = cost;
            other.thought = thought.clone();
            return other;
        }

        int chances() {
            return worlds.stream().mapToInt(World::chance).sum();
        }

        long[] chanceWeights() {
            return worlds.stream().mapToLong(World::chance).toArray();
        }
    }

    private State s = new State();
    private State imaged = null;
    private final Object[] shelf = new Object[8];

    // ---- lands

    private static final Pattern STATEMENT = Pattern.compile(
            "r[0-9][0-9] N;|w(?:N) [0-9] N;|s[0-9] N;|m[0-9][0-9] N;|b[0-9];|aN;".replace("N", "(?:0|[1-9][0-9]{0,4})"));

    /** Whether some text of statements begins with this one. */
    private static boolean canGoOn(String text) {
        Matcher m = STATEMENT.matcher(text);
        int at = 0;
        while (at < text.length()) {
            m.region(at, text.length());
            if (m.lookingAt()) {
                at = m.end();
            } else {
                return m.hitEnd() && endsInside(text.substring(at));
            }
        }
        return true;
    }

    /** hitEnd alone is too wide for alternatives: try whether some short ending completes it. */
    private static boolean endsInside(String begun) {
        for (String ending : new String[] {";", "0;", " 0;", " 0 0;", "0 0;", "0 0 0;", "00 0;"}) {
            if (STATEMENT.matcher(begun + ending).matches()) {
                return true;
            }
        }
        return false;
    }

    int land(int d) {
        if (!isShelf(d)) {
            return -1;
        }
        if (shelf[d] == null) {
            return -11;
        }
        if (!(shelf[d] instanceof Row row) || row.sort != 0) {
            return -12;
        }
        StringBuilder chars = new StringBuilder();
        for (int b : row.at) {
            chars.append((char) (b & 255));
        }
        String text = chars.toString();
        for (int n = 1; n <= text.length(); n++) {
            if (!canGoOn(text.substring(0, n))) {
                return -1000 - (n - 1);
            }
        }
        if (!text.endsWith(";")) {
            return -1000 - text.length();
        }
        State trial = s.copied();
        int place = 0;
        int statements = 0;
        for (String statement : text.split(";")) {
            if (!take(trial, statement)) {
                return -2000 - place;
            }
            place += statement.length() + 1;
            statements++;
        }
        s = trial;
        s.thought = s.chanceWeights();
        return statements;
    }

    private static boolean take(State t, String statement) {
        String[] words = statement.substring(1).split(" ");
        int first = Integer.parseInt(words[0]);
        int second = words.length > 1 ? Integer.parseInt(words[1]) : 0;
        int c = statement.charAt(1) - '0';
        int e = statement.length() > 2 ? statement.charAt(2) - '0' : -1;
        switch (statement.charAt(0)) {
            case 'r':
                if (c > 7 || e > 7 || c == e || second < 1 || second > 60 || t.roads.size() == 16) {
                    return false;
                }
                return t.roads.add(new Road(c, e, second));
            case 'w':
                int bits = Integer.parseInt(words[2]);
                if (first < 1 || first > 100 || second > 7 || bits > 65535 || t.worlds.size() == 5) {
                    return false;
                }
                return t.chances() + first <= 100 && t.worlds.add(new World(first, second, bits));
            case 's':
                return first <= 4 && second <= 99 && t.sorts.size() < 6 && t.sorts.add(new Sort(first, second));
            case 'm':
                if (c > 7 || e >= t.sorts.size() || second > 100) {
                    return false;
                }
                t.met[c][e] = second;
                int all = 0;
                for (int h : t.met[c]) {
                    all += h;
                }
                return all <= 100;
            case 'b':
                t.start = c;
                return c <= 7;
            default:
                t.cost = first;
                return first <= 30;
        }
    }

    int road(int road, int what) {
        if (road < 0 || road >= s.roads.size() || what < 0 || what > 2) {
            return -1;
        }
        Road r = s.roads.get(road);
        return new int[] {r.a, r.b, r.minutes}[what];
    }

    int world(int world, int what) {
        if (!isWorld(world) || what < 0 || what > 2) {
            return -1;
        }
        World w = s.worlds.get(world);
        return new int[] {w.chance, w.goal, w.shut}[what];
    }

    int met(int crossing, int sort) {
        return isCrossing(crossing) && sort >= 0 && sort < s.sorts.size() ? s.met[crossing][sort] : -1;
    }

    int set(int what, int n) {
        int was = what == 0 ? s.start : s.cost;
        if (what < 0 || what > 1 || n < 0 || n > (what == 0 ? 7 : 30)) {
            return -1;
        }
        if (what == 0) {
            s.start = n;
        } else {
            s.cost = n;
        }
        return was;
    }

    // ---- ways, answers

    private boolean isShut(int world, int road) {
        return BigInteger.valueOf(s.worlds.get(world).shut).testBit(road);
    }

    /** All ways without a crossing twice are tried. */
    private int shortest(int world, int at, int seen) {
        if (at == s.worlds.get(world).goal) {
            return 0;
        }
        int least = FAR;
        for (int r = 0; r < s.roads.size(); r++) {
            Road road = s.roads.get(r);
            int other = road.a == at ? road.b : road.b == at ? road.a : -1;
            if (other >= 0 && !isShut(world, r) && (seen >> other & 1) == 0) {
                int rest = shortest(world, other, seen | 1 << other);
                least = rest == FAR ? least : Math.min(least, rest + road.minutes);
            }
        }
        return least;
    }

    private int wayFrom(int world, int at) {
        return shortest(world, at, 1 << at);
    }

    private int nextFrom(int world, int at) {
        int all = wayFrom(world, at);
        if (all == FAR || all == 0) {
            return -4;
        }
        for (int r = 0; r < s.roads.size(); r++) {
            Road road = s.roads.get(r);
            int other = road.a == at ? road.b : road.b == at ? road.a : -1;
            if (other >= 0 && !isShut(world, r) && wayFrom(world, other) + road.minutes == all) {
                return r;
            }
        }
        throw new IllegalStateException();
    }

    int way(int world, int from) {
        return isWorld(world) && isCrossing(from) ? wayFrom(world, from) : -1;
    }

    int next(int world, int from) {
        return isWorld(world) && isCrossing(from) ? nextFrom(world, from) : -1;
    }

    private int said(int sort, int crossing, int world) {
        int n = s.worlds.size();
        Sort who = s.sorts.get(sort);
        if (who.kind == 1) {
            return Math.min(who.figure, n - 1);
        }
        if (who.kind == 2) {
            int pleasing = n - 1;
            for (int w = n - 1; w >= 0; w--) {
                pleasing = wayFrom(w, crossing) <= wayFrom(pleasing, crossing) ? w : pleasing;
            }
            return pleasing;
        }
        return who.kind == 0 ? world : who.kind == 3 ? (world + 1) % n : (world + n - 1) % n;
    }

    int says(int sort, int crossing, int world) {
        if (sort < 0 || sort >= s.sorts.size() || !isCrossing(crossing) || !isWorld(world)) {
            return -1;
        }
        return said(sort, crossing, world);
    }

    private int hundredths(int crossing, int answer, int world) {
        int together = 0;
        int nobody = 100;
        for (int k = 0; k < s.sorts.size(); k++) {
            nobody -= s.met[crossing][k];
            together += said(k, crossing, world) == answer ? s.met[crossing][k] : 0;
        }
        return answer == -1 ? nobody : together;
    }

    int chance(int crossing, int answer, int world) {
        return isCrossing(crossing) && isAnswer(answer) && isWorld(world) ? hundredths(crossing, answer, world) : -1;
    }

    // ---- thoughts

    private interface Factor {
        long of(int world);
    }

    /** The weights times factors, divided and halved; null, if all would be 0. */
    private static long[] times(long[] weights, Factor factor) {
        BigInteger[] big = new BigInteger[weights.length];
        BigInteger divisor = BigInteger.ZERO;
        for (int w = 0; w < big.length; w++) {
            big[w] = BigInteger.valueOf(weights[w]).multiply(BigInteger.valueOf(factor.of(w)));
            divisor = divisor.gcd(big[w]);
        }
        if (divisor.signum() == 0) {
            return null;
        }
        for (int w = 0; w < big.length; w++) {
            big[w] = big[w].divide(divisor);
        }
        while (isAbove(big)) {
            for (int w = 0; w < big.length; w++) {
                boolean was = big[w].signum() > 0;
                big[w] = big[w].shiftRight(1);
                if (was && big[w].signum() == 0) {
                    big[w] = BigInteger.ONE;
                }
            }
        }
        long[] after = new long[big.length];
        for (int w = 0; w < after.length; w++) {
            after[w] = big[w].longValueExact();
        }
        return after;
    }

    private static boolean isAbove(BigInteger[] weights) {
        for (BigInteger weight : weights) {
            if (weight.compareTo(BigInteger.valueOf(100000000000L)) > 0) {
                return true;
            }
        }
        return false;
    }

    private static int likeliest(long[] weights) {
        int likeliest = weights.length - 1;
        for (int w = weights.length - 1; w >= 0; w--) {
            likeliest = weights[w] >= weights[likeliest] ? w : likeliest;
        }
        return likeliest;
    }

    private static long sum(long[] weights) {
        long all = 0;
        for (long weight : weights) {
            all += weight;
        }
        return all;
    }

    private boolean isReady() {
        return s.chances() == 100;
    }

    int anew() {
        if (!isReady()) {
            return -3;
        }
        s.thought = s.chanceWeights();
        return likeliest(s.thought);
    }

    private int think(Factor factor) {
        long[] after = isReady() ? times(s.thought, factor) : null;
        if (after == null) {
            return -3;
        }
        s.thought = after;
        return likeliest(after);
    }

    int answer(int crossing, int answer) {
        if (!isCrossing(crossing) || !isAnswer(answer)) {
            return -1;
        }
        return think(w -> hundredths(crossing, answer, w));
    }

    int found(int road, boolean open) {
        if (road < 0 || road >= s.roads.size()) {
            return -1;
        }
        return think(w -> isShut(w, road) != open ? 1 : 0);
    }

    int same(int crossing, int answer, int q) {
        if (!isCrossing(crossing) || !isAnswer(answer) || q < 0 || q > 100) {
            return -1;
        }
        return think(w -> {
            long h = hundredths(crossing, answer, w);
            return h * (100 * q + (100 - q) * h);
        });
    }

    long think(int world, int part) {
        if (!isWorld(world) || part < 0 || part > 1) {
            return LONGS - 1;
        }
        if (!isReady()) {
            return LONGS - 3;
        }
        BigInteger weight = BigInteger.valueOf(s.thought[world]);
        BigInteger all = BigInteger.valueOf(sum(s.thought));
        return (part == 0 ? weight : all).divide(weight.gcd(all)).longValueExact();
    }

    int judge(int d) {
        if (!isShelf(d)) {
            return -1;
        }
        if (!isReady()) {
            return -3;
        }
        if (!(shelf[d] instanceof Row row)) {
            return shelf[d] == null ? -11 : -12;
        }
        long least = new long[] {Byte.MIN_VALUE, Short.MIN_VALUE, Integer.MIN_VALUE}[row.sort];
        int n = s.worlds.size();
        for (int w = 0; w < Math.min(n, row.at.length); w++) {
            if (row.at[w] != least && row.at[w] != 100 * s.thought[w] / sum(s.thought)) {
                return w;
            }
        }
        return row.at.length == n ? -4 : Math.min(n, row.at.length);
    }

    // ---- walks

    /** One walk; its rule is null, if it goes by a thought alone. */
    private final class Walker {
        final Rule rule;
        final int world;
        final int post;
        int z;
        int at;
        long[] mind;
        int minutes = 0;
        int asked = 0;
        int gone = 0;
        boolean again;

        Walker(Rule rule, int world, int z, int post, int at, long[] mind) {
            this.rule = rule;
            this.world = world;
            this.z = z;
            this.post = post;
            this.at = at;
            this.mind = mind;
            this.again = rule != null && (rule.kind == 1 || rule.kind == 2 || rule.kind == 5);
        }

        boolean isThere() {
            return at == s.worlds.get(world).goal;
        }

        Walked walked() {
            if (isThere()) {
                return new Walked(0, 0, 0);
            }
            begin();
            arrive();
            for (int steps = 0; !isThere(); steps++) {
                if (steps == 200 || !step()) {
                    return new Walked(NEVER_GONE, asked, gone);
                }
            }
            return new Walked(minutes, asked, gone);
        }

        void begin() {
            int kind = rule == null ? 0 : rule.kind;
            if (kind == 1 || kind == 2) {
                int[] votes = new int[s.worlds.size()];
                for (int i = 0; i < (kind == 1 ? 1 : rule.figure); i++) {
                    int said = ask();
                    if (said >= 0) {
                        votes[said]++;
                    }
                }
                int most = 0;
                for (int w = 0; w < votes.length; w++) {
                    most = votes[w] > votes[most] ? w : most;
                }
                if (votes[most] > 0) {
                    believe(most);
                }
            } else if (kind == 5 && rule.figure < s.worlds.size()) {
                believe(rule.figure);
            }
        }

        void believe(int world) {
            mind = times(mind, w -> w == world ? 1 : 0);
        }

        void arrive() {
            if (rule == null || rule.kind != 3 && rule.kind != 4 || isThere()) {
                return;
            }
            if (rule.kind == 4 && mind[likeliest(mind)] * 100 >= rule.figure * sum(mind)) {
                return;
            }
            int answer = ask();
            long[] after = times(mind, w -> at == post ? (w == answer ? 100 : 0) : hundredths(at, answer, w));
            mind = after == null ? mind : after;
        }

        int ask() {
            asked++;
            minutes += s.cost;
            z = (int) (z * 1103515245L + 12345L);
            if (at == post) {
                return world;
            }
            int drawn = (z & 0x7fffffff) / 65536 % 100;
            for (int k = 0; k < s.sorts.size(); k++) {
                drawn -= s.met[at][k];
                if (drawn < 0) {
                    return said(k, at, world);
                }
            }
            return -1;
        }

        boolean step() {
            int l = likeliest(mind);
            if (s.worlds.get(l).goal == at) {
                return change(w -> s.worlds.get(w).goal == at ? 0 : 1);
            }
            if (wayFrom(l, at) == FAR) {
                return change(w -> w == l ? 0 : 1);
            }
            int r = nextFrom(l, at);
            if (isShut(world, r)) {
                return change(w -> isShut(w, r) ? 1 : 0);
            }
            Road road = s.roads.get(r);
            at = road.a == at ? road.b : road.a;
            minutes += road.minutes;
            gone++;
            boolean changed = change(w -> isShut(w, r) ? 0 : 1);
            arrive();
            return changed;
        }

        boolean change(Factor factor) {
            long[] after = times(mind, factor);
            if (after == null && again) {
                again = false;
                after = s.chanceWeights();
            }
            mind = after == null ? mind : after;
            return after != null;
        }
    }

    private int minutes(int world, int from, long[] mind) {
        return new Walker(null, world, 0, -1, from, mind).walked().minutes;
    }

    private static int counted(int minutes) {
        return minutes == NEVER_GONE ? 999 : minutes;
    }

    int walk(int world, int from) {
        if (!isWorld(world) || !isCrossing(from)) {
            return -1;
        }
        return isReady() ? minutes(world, from, s.thought) : -3;
    }

    private BigInteger worthAt(int crossing, int cost) {
        BigInteger worth = BigInteger.ZERO;
        for (int w = 0; w < s.worlds.size(); w++) {
            long inside = 100L * counted(minutes(w, crossing, s.thought)) - 100L * cost;
            for (int a = -1; a < s.worlds.size(); a++) {
                int h = hundredths(crossing, a, w);
                if (h > 0 && s.thought[w] > 0) {
                    int answer = a;
                    long[] after = times(s.thought, v -> hundredths(crossing, answer, v));
                    inside -= (long) h * counted(minutes(w, crossing, after));
                }
            }
            worth = worth.add(BigInteger.valueOf(inside).multiply(BigInteger.valueOf(s.thought[w])));
        }
        return worth;
    }

    long worth(int crossing) {
        if (!isCrossing(crossing)) {
            return LONGS - 1;
        }
        return isReady() ? worthAt(crossing, s.cost).longValueExact() : LONGS - 3;
    }

    int never(int crossing) {
        if (!isCrossing(crossing)) {
            return -1;
        }
        if (!isReady()) {
            return -3;
        }
        for (int cost = 0; cost <= 30; cost++) {
            if (worthAt(crossing, cost).signum() < 0) {
                return cost;
            }
        }
        return -4;
    }

    private Walked byRule(Rule rule, int world, int z, int post) {
        return new Walker(rule, world, z, post, s.start, s.chanceWeights()).walked();
    }

    private int refusal(int d, boolean inRange) {
        if (!isShelf(d) || !inRange) {
            return -1;
        }
        if (!(shelf[d] instanceof Rule)) {
            return shelf[d] == null ? -11 : -12;
        }
        return isReady() ? 0 : -3;
    }

    int by(int d, int world, int z, int what) {
        int refusal = refusal(d, isWorld(world) && what >= 0 && what <= 2);
        if (refusal < 0) {
            return refusal;
        }
        Walked walked = byRule((Rule) shelf[d], world, z, -1);
        return what == 0 ? walked.minutes : what == 1 ? walked.asked : walked.gone;
    }

    private int meanOf(Rule rule, int n, int z, int post) {
        int all = 0;
        for (int i = 0; i < n; i++) {
            for (int w = 0; w < s.worlds.size(); w++) {
                all += s.worlds.get(w).chance * counted(byRule(rule, w, z + i, post).minutes);
            }
        }
        return all;
    }

    int mean(int d, int n, int z) {
        int refusal = refusal(d, n >= 1 && n <= 20);
        return refusal < 0 ? refusal : meanOf((Rule) shelf[d], n, z, -1);
    }

    int dusk(int d, int n, int z, int minute) {
        int refusal = refusal(d, n >= 1 && n <= 20 && minute >= 0 && minute <= 9999);
        if (refusal < 0) {
            return refusal;
        }
        int all = 0;
        for (int i = 0; i < n; i++) {
            for (int w = 0; w < s.worlds.size(); w++) {
                Walked walked = byRule((Rule) shelf[d], w, z + i, -1);
                all += walked.minutes <= minute ? s.worlds.get(w).chance : 0;
            }
        }
        return all;
    }

    int best(int d, int figure, int n, int z) {
        if (!isShelf(d) || figure < 0 || figure > 99 || n < 1 || n > 20) {
            return -1;
        }
        if (!(shelf[d] instanceof Row row) || row.sort != 0) {
            return shelf[d] == null ? -11 : -12;
        }
        if (row.at.length < 1 || row.at.length > 6) {
            return -13;
        }
        for (int kind : row.at) {
            if (kind < 0 || kind > 5) {
                return -13;
            }
        }
        if (!isReady()) {
            return -3;
        }
        int best = row.at.length - 1;
        for (int i = best; i >= 0; i--) {
            int mean = meanOf(new Rule(row.at[i], figure), n, z, -1);
            best = mean <= meanOf(new Rule(row.at[best], figure), n, z, -1) ? i : best;
        }
        return best;
    }

    int post(int n, int z) {
        if (n < 1 || n > 20) {
            return -1;
        }
        if (!isReady()) {
            return -3;
        }
        int best = -1;
        int least = 0;
        for (int c = 0; c < 8; c++) {
            int mean = meanOf(new Rule(3, 0), n, z, c);
            if (best < 0 || mean < least) {
                best = c;
                least = mean;
            }
        }
        return best;
    }

    // ---- the image, what is told

    int image() {
        imaged = s.copied();
        return s.worlds.size();
    }

    int restore() {
        if (imaged == null) {
            return -3;
        }
        s = imaged.copied();
        return s.worlds.size();
    }

    int count(int what) {
        if (what < 0 || what > 5) {
            return -1;
        }
        return new int[] {s.roads.size(), s.worlds.size(), s.sorts.size(), s.chances(), s.start,
            s.roads.stream().mapToInt(Road::minutes).sum()}[what];
    }

    // ---- shelves

    int keep(int d, int what, int k, int figure) {
        if (!isShelf(d) || what < 0 || what > 1) {
            return -1;
        }
        if (what == 1 && (k < 0 || k > 5 || figure < 0 || figure > 99)) {
            return -1;
        }
        shelf[d] = what == 0 ? null : new Rule(k, figure);
        return 0;
    }

    int row(int d, int sort, int n) {
        if (!isShelf(d) || sort < 0 || sort > 2 || n > 100) {
            return -1;
        }
        if (n < 0) {
            return -14;
        }
        Row row = new Row();
        row.sort = sort;
        row.at = new int[n];
        shelf[d] = row;
        return 0;
    }

    int put(int d, int i, int v) {
        if (!isShelf(d)) {
            return -1;
        }
        if (!(shelf[d] instanceof Row row)) {
            return shelf[d] == null ? -11 : -12;
        }
        if (i < 0 || i >= row.at.length) {
            return -13;
        }
        row.at[i] = row.sort == 0 ? (byte) v : row.sort == 1 ? (short) v : v;
        return 0;
    }

    long element(int d, int i) {
        if (!isShelf(d)) {
            throw new IllegalArgumentException();
        }
        if (!(shelf[d] instanceof Row row) || i < 0 || i >= row.at.length) {
            throw new IllegalStateException();
        }
        return row.at[i];
    }

    int copy(int d, int i, int e, int j, int n) {
        if (!isShelf(d) || !isShelf(e)) {
            return -1;
        }
        if (shelf[d] == null || shelf[e] == null) {
            return -11;
        }
        if (!(shelf[d] instanceof Row from) || !(shelf[e] instanceof Row to) || from.sort != to.sort) {
            return -12;
        }
        if (n < 0 || i < 0 || j < 0 || (long) i + n > from.at.length || (long) j + n > to.at.length) {
            return -13;
        }
        int[] taken = from.at.clone();
        for (int k = 0; k < n; k++) {
            to.at[j + k] = taken[i + k];
        }
        return n;
    }

    private int ruleRefusal(int d) {
        if (!isShelf(d)) {
            return -1;
        }
        return shelf[d] == null ? -11 : shelf[d] instanceof Rule ? 0 : -12;
    }

    int weight(int d) {
        int refusal = ruleRefusal(d);
        return refusal < 0 ? refusal : weightOf((Rule) shelf[d]);
    }

    private static int weightOf(Rule r) {
        return new int[] {3, 4, 4 + r.figure, 6, 6 + r.figure, 3 + 10 * r.figure}[r.kind];
    }

    int toss(int d) {
        int refusal = ruleRefusal(d);
        if (refusal < 0) {
            return refusal;
        }
        Rule r = (Rule) shelf[d];
        if (r.kind == 5 || r.figure == 0) {
            return -15;
        }
        return r.kind == 4 ? 200 + weightOf(r) : r.kind == 2 ? 100 + r.figure : r.figure;
    }

    private static boolean isShelf(int d) {
        return d >= 0 && d <= 7;
    }

    private static boolean isCrossing(int c) {
        return c >= 0 && c <= 7;
    }

    private boolean isWorld(int w) {
        return w >= 0 && w < s.worlds.size();
    }

    private boolean isAnswer(int a) {
        return a >= -1 && a < s.worlds.size();
    }
}
