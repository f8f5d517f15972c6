import java.util.NoSuchElementException;

/** Ask the next one you meet: see README.md; the document's words are in capitals here. */
public final class AskNext {
    private static final int CROSSINGS = 8;
    private static final int ROADS = 16;
    private static final int WORLDS = 5;
    private static final int SORTS = 6;
    private static final int SHELVES = 8;
    private static final int ELEMENTS = 100;

    private static final int SORT_KINDS = 5;
    private static final int RULE_KINDS = 6;
    private static final int GREATEST_FIGURE = 99;
    private static final int LONGEST_ROAD = 60;
    private static final int GREATEST_SHUT = 65535;
    private static final int LONGEST_NUMBER = 5;
    private static final int DEAREST_ASKING = 30;
    private static final int MOST_SEEDS = 20;
    private static final int LAST_MINUTE = 9999;

    private static final int HUNDRED = 100;
    private static final int GREATEST_INT = 2147483647;
    private static final int LEAST_INT = -2147483648;
    private static final int NONE = 99999;
    private static final int LOST = 99999;
    private static final int LOST_IN_SUMS = 999;
    private static final int STEPS = 200;
    private static final int NOBODY = -1;
    private static final int NOWHERE = -1;
    private static final int NO_WORLD = -1;
    private static final long HEAVIEST = 100000000000L;

    private static final int BYTES = 0;
    private static final int SHORTS = 1;
    private static final int ROW_SORTS = 3;

    private static final int NO_SUCH = -1;
    private static final int CANNOT_BE = -3;
    private static final int NO_ONE = -4;
    private static final int NOTHING_HELD = -11;
    private static final int OTHER_KIND = -12;
    private static final int NO_PLACE = -13;
    private static final int BELOW_ZERO = -14;
    private static final int NO_FAILURE = -15;
    private static final long REFUSED_LONG = -4000000000000000000L;

    private final Walker walker = new Walker();
    private final Land now = walker.land;
    private final Land imaged = new Land();
    private final Land trial = new Land();
    private final Thought thought = new Thought();
    private final Thought imagedThought = new Thought();
    private final Thought afterAnswer = new Thought();
    private final Reader reader = new Reader();
    private final Rule plain = new Rule(0);
    private final Rule thinking = new Think(0);
    private final Rule[] rules = new Rule[SHELVES];
    private final Row[] rows = new Row[SHELVES];
    private boolean hasImage = false;

    public AskNext() {
    }

    // ---- lands

    public int land(int d) {
        Row text = rowOn(d);
        if (text == null) {
            return lackOn(d);
        }
        if (text.sort != BYTES) {
            return OTHER_KIND;
        }
        trial.becomeLike(now);
        int statements = reader.readInto(text, trial);
        if (statements > 0) {
            now.becomeLike(trial);
            now.workOut();
            thought.becomeChances(now);
        }
        return statements;
    }

    public int road(int road, int what) {
        if (!now.hasRoad(road)) {
            return NO_SUCH;
        }
        switch (what) {
            case 0: return now.firstEnd[road];
            case 1: return now.secondEnd[road];
            case 2: return now.minutes[road];
            default: return NO_SUCH;
        }
    }

    public int world(int world, int what) {
        if (!now.hasWorld(world)) {
            return NO_SUCH;
        }
        switch (what) {
            case 0: return now.chances[world];
            case 1: return now.goals[world];
            case 2: return now.shut[world];
            default: return NO_SUCH;
        }
    }

    public int met(int crossing, int sort) {
        if (!isCrossing(crossing) || !now.hasSort(sort)) {
            return NO_SUCH;
        }
        return now.metHere[crossing][sort];
    }

    public int set(int what, int n) {
        int before = NO_SUCH;
        if (what == 0 && isCrossing(n)) {
            before = now.start;
            now.start = n;
        } else if (what == 1 && n >= 0 && n <= DEAREST_ASKING) {
            before = now.asking;
            now.asking = n;
        }
        return before;
    }

    // ---- ways, answers

    public int way(int world, int from) {
        if (!now.hasWorld(world) || !isCrossing(from)) {
            return NO_SUCH;
        }
        return now.ways[world][from];
    }

    public int next(int world, int from) {
        if (!now.hasWorld(world) || !isCrossing(from)) {
            return NO_SUCH;
        }
        int road = now.nextRoads[world][from];
        return road < 0 ? NO_ONE : road;
    }

    public int says(int sort, int crossing, int world) {
        if (!now.hasSort(sort) || !isCrossing(crossing) || !now.hasWorld(world)) {
            return NO_SUCH;
        }
        return now.saidBy(sort, crossing, world);
    }

    public int chance(int crossing, int answer, int world) {
        if (!isCrossing(crossing) || !isAnswer(answer) || !now.hasWorld(world)) {
            return NO_SUCH;
        }
        return now.odds[Land.oddsPlace(crossing, answer)][world];
    }

    // ---- thoughts

    public int anew() {
        if (!now.isReady()) {
            return CANNOT_BE;
        }
        thought.becomeChances(now);
        return thought.likeliest();
    }

    public int answer(int crossing, int answer) {
        if (!isCrossing(crossing) || !isAnswer(answer)) {
            return NO_SUCH;
        }
        thought.hear(now, crossing, answer);
        return likeliestAfterwards();
    }

    public int found(int road, boolean open) {
        if (!now.hasRoad(road)) {
            return NO_SUCH;
        }
        thought.findRoad(now, road, open);
        return likeliestAfterwards();
    }

    public int same(int crossing, int answer, int q) {
        if (!isCrossing(crossing) || !isAnswer(answer) || q < 0 || q > HUNDRED) {
            return NO_SUCH;
        }
        thought.hearTwice(now, crossing, answer, q);
        return likeliestAfterwards();
    }

    /** The LIKELIEST after what was heard or found; a refusal, if that can't be. */
    private int likeliestAfterwards() {
        return now.isReady() && thought.settles() ? thought.likeliest() : CANNOT_BE;
    }

    public long think(int world, int part) {
        if (!now.hasWorld(world) || part < 0 || part > 1) {
            return REFUSED_LONG + NO_SUCH;
        }
        if (!now.isReady()) {
            return REFUSED_LONG + CANNOT_BE;
        }
        long weight = thought.weights[world];
        long all = thought.all();
        long divisor = Thought.greatestDivisor(weight, all);
        if (divisor <= 0) {
            return REFUSED_LONG + CANNOT_BE;
        }
        return (part == 0 ? weight : all) / divisor;
    }

    public int judge(int d) {
        if (!isShelf(d)) {
            return NO_SUCH;
        }
        if (!now.isReady()) {
            return CANNOT_BE;
        }
        Row told = rowOn(d);
        if (told == null) {
            return lackOn(d);
        }
        return firstMisjudged(told);
    }

    private int firstMisjudged(Row told) {
        int size = told.elements.length;
        for (int w = 0; w < now.worlds; w++) {
            if (w >= size) {
                return size;
            }
            int hundredths = told.elements[w];
            if (hundredths != told.leastNumber() && hundredths != thought.hundredthsOf(w)) {
                return w;
            }
        }
        return size > now.worlds ? now.worlds : NO_ONE;
    }

    // ---- walks

    public int walk(int world, int from) {
        if (!now.hasWorld(world) || !isCrossing(from)) {
            return NO_SUCH;
        }
        if (!now.isReady()) {
            return CANNOT_BE;
        }
        walker.setOutByMind(plain, thought, world, from);
        return walker.minutesThere();
    }

    public long worth(int crossing) {
        if (!isCrossing(crossing)) {
            return REFUSED_LONG + NO_SUCH;
        }
        if (!now.isReady()) {
            return REFUSED_LONG + CANNOT_BE;
        }
        return gainAt(crossing) - askingFor(now.asking);
    }

    public int never(int crossing) {
        if (!isCrossing(crossing)) {
            return NO_SUCH;
        }
        if (!now.isReady()) {
            return CANNOT_BE;
        }
        long gain = gainAt(crossing);
        for (int cost = 0; cost <= DEAREST_ASKING; cost++) {
            if (gain - askingFor(cost) < 0) {
                return cost;
            }
        }
        return NO_ONE;
    }

    /** What one ASKING takes off a WORTH, if it costs so much. */
    private long askingFor(int cost) {
        return HUNDRED * cost * thought.all();
    }

    /** WORTH at a CROSSING, if ASKING costs nothing. */
    private long gainAt(int crossing) {
        long gain = 0;
        for (int w = 0; w < now.worlds; w++) {
            walker.setOutByMind(plain, thought, w, crossing);
            gain += HUNDRED * thought.weights[w] * inSums(walker.minutesThere());
        }
        for (int answer = NOBODY; answer < now.worlds; answer++) {
            afterAnswer.becomeLike(thought);
            afterAnswer.hear(now, crossing, answer);
            // an ANSWER that no WORLD with a weight gives has no hundredths to count
            if (afterAnswer.settles()) {
                gain -= spentAfter(crossing, answer);
            }
        }
        return gain;
    }

    private long spentAfter(int crossing, int answer) {
        int[] odds = now.odds[Land.oddsPlace(crossing, answer)];
        long spent = 0;
        for (int w = 0; w < now.worlds; w++) {
            long share = thought.weights[w] * odds[w];
            if (share > 0) {
                walker.setOutByMind(plain, afterAnswer, w, crossing);
                spent += share * inSums(walker.minutesThere());
            }
        }
        return spent;
    }

    private static int inSums(int minutes) {
        return minutes == LOST ? LOST_IN_SUMS : minutes;
    }

    public int by(int d, int world, int z, int what) {
        if (!isShelf(d) || !now.hasWorld(world) || what < 0 || what > 2) {
            return NO_SUCH;
        }
        Rule rule = ruleOn(d);
        if (rule == null) {
            return lackOn(d);
        }
        if (!now.isReady()) {
            return CANNOT_BE;
        }
        walker.setOutByRule(rule, world, z, NOWHERE);
        int minutes = walker.minutesThere();
        switch (what) {
            case 0: return minutes;
            case 1: return walker.asked;
            default: return walker.gone;
        }
    }

    public int mean(int d, int n, int z) {
        if (!isShelf(d) || !isSeeds(n)) {
            return NO_SUCH;
        }
        Rule rule = ruleOn(d);
        if (rule == null) {
            return lackOn(d);
        }
        if (!now.isReady()) {
            return CANNOT_BE;
        }
        return meanOf(rule, n, z, NOWHERE);
    }

    private int meanOf(Rule rule, int n, int z, int post) {
        int together = 0;
        for (int w = 0; w < now.worlds; w++) {
            for (int i = 0; i < n; i++) {
                walker.setOutByRule(rule, w, z + i, post);
                together += now.chances[w] * inSums(walker.minutesThere());
            }
        }
        return together;
    }

    public int dusk(int d, int n, int z, int minute) {
        if (!isShelf(d) || !isSeeds(n) || minute < 0 || minute > LAST_MINUTE) {
            return NO_SUCH;
        }
        Rule rule = ruleOn(d);
        if (rule == null) {
            return lackOn(d);
        }
        if (!now.isReady()) {
            return CANNOT_BE;
        }
        int together = 0;
        for (int w = 0; w < now.worlds; w++) {
            for (int i = 0; i < n; i++) {
                walker.setOutByRule(rule, w, z + i, NOWHERE);
                // LOST is later than any MINUTE that can be told
                if (walker.minutesThere() <= minute) {
                    together += now.chances[w];
                }
            }
        }
        return together;
    }

    public int best(int d, int figure, int n, int z) {
        if (!isShelf(d) || !isFigure(figure) || !isSeeds(n)) {
            return NO_SUCH;
        }
        Row kinds = rowOn(d);
        if (kinds == null) {
            return lackOn(d);
        }
        if (kinds.sort != BYTES) {
            return OTHER_KIND;
        }
        if (!holdsKinds(kinds)) {
            return NO_PLACE;
        }
        if (!now.isReady()) {
            return CANNOT_BE;
        }
        int bestPlace = 0;
        int leastMean = GREATEST_INT;
        for (int i = 0; i < kinds.elements.length; i++) {
            int mean = meanOf(ruleOf(kinds.elements[i], figure), n, z, NOWHERE);
            if (mean < leastMean) {
                bestPlace = i;
                leastMean = mean;
            }
        }
        return bestPlace;
    }

    private static boolean holdsKinds(Row row) {
        int size = row.elements.length;
        if (size < 1 || size > RULE_KINDS) {
            return false;
        }
        for (int i = 0; i < size; i++) {
            if (!isRuleKind(row.elements[i])) {
                return false;
            }
        }
        return true;
    }

    public int post(int n, int z) {
        if (!isSeeds(n)) {
            return NO_SUCH;
        }
        if (!now.isReady()) {
            return CANNOT_BE;
        }
        int bestCrossing = 0;
        int leastMean = GREATEST_INT;
        for (int c = 0; c < CROSSINGS; c++) {
            int mean = meanOf(thinking, n, z, c);
            if (mean < leastMean) {
                bestCrossing = c;
                leastMean = mean;
            }
        }
        return bestCrossing;
    }

    // ---- the image, what is told

    public int image() {
        imaged.becomeLike(now);
        imagedThought.becomeLike(thought);
        hasImage = true;
        return now.worlds;
    }

    public int restore() {
        if (!hasImage) {
            return CANNOT_BE;
        }
        now.becomeLike(imaged);
        now.workOut();
        thought.becomeLike(imagedThought);
        return now.worlds;
    }

    public int count(int what) {
        switch (what) {
            case 0: return now.roads;
            case 1: return now.worlds;
            case 2: return now.sorts;
            case 3: return now.chancesTogether();
            case 4: return now.start;
            case 5: return now.minutesTogether();
            default: return NO_SUCH;
        }
    }

    // ---- shelves

    public int keep(int d, int what, int k, int figure) {
        if (!isShelf(d)) {
            return NO_SUCH;
        }
        if (what == 0) {
            rules[d] = null;
        } else if (what == 1 && isRuleKind(k) && isFigure(figure)) {
            rules[d] = ruleOf(k, figure);
        } else {
            return NO_SUCH;
        }
        rows[d] = null;
        return 0;
    }

    public int row(int d, int sort, int n) {
        if (!isShelf(d) || sort < 0 || sort >= ROW_SORTS || n > ELEMENTS) {
            return NO_SUCH;
        }
        if (n < 0) {
            return BELOW_ZERO;
        }
        rules[d] = null;
        rows[d] = new Row(sort, n);
        return 0;
    }

    public int put(int d, int i, int v) {
        Row row = rowOn(d);
        if (row == null) {
            return lackOn(d);
        }
        if (!row.hasPlace(i)) {
            return NO_PLACE;
        }
        row.elements[i] = row.lowestBits(v);
        return 0;
    }

    public long element(int d, int i) throws IllegalArgumentException, IllegalStateException {
        if (!isShelf(d)) {
            throw new IllegalArgumentException("no such shelf");
        }
        Row row = rowOn(d);
        if (row == null || !row.hasPlace(i)) {
            throw new IllegalStateException("no row, or no such place");
        }
        return row.elements[i];
    }

    public int copy(int d, int i, int e, int j, int n) {
        if (!isShelf(d) || !isShelf(e)) {
            return NO_SUCH;
        }
        if (isEmpty(d) || isEmpty(e)) {
            return NOTHING_HELD;
        }
        Row from = rowOn(d);
        Row to = rowOn(e);
        if (from == null || to == null || from.sort != to.sort) {
            return OTHER_KIND;
        }
        if (!from.hasPlaces(i, n) || !to.hasPlaces(j, n)) {
            return NO_PLACE;
        }
        System.arraycopy(from.elements, i, to.elements, j, n);
        return n;
    }

    public int weight(int d) {
        Rule rule = ruleOn(d);
        if (rule == null) {
            return lackOn(d);
        }
        return rule.heaviness();
    }

    public int toss(int d) {
        Rule rule = ruleOn(d);
        if (rule == null) {
            return lackOn(d);
        }
        try {
            rule.fail();
        } catch (UnsupportedOperationException ofMost) {
            return rule.figure + 100;
        } catch (NoSuchElementException ofBack) {
            return rule.heaviness() + 200;
        } catch (IllegalStateException ofOthers) {
            return rule.figure;
        }
        return NO_FAILURE;
    }

    // What is held on a SHELF is in one of two arrays, or in neither.

    private Rule ruleOn(int d) {
        return isShelf(d) ? rules[d] : null;
    }

    private Row rowOn(int d) {
        return isShelf(d) ? rows[d] : null;
    }

    private boolean isEmpty(int d) {
        return ruleOn(d) == null && rowOn(d) == null;
    }

    /** The refusal where SHELF d doesn't hold what is wanted. */
    private int lackOn(int d) {
        if (!isShelf(d)) {
            return NO_SUCH;
        }
        return isEmpty(d) ? NOTHING_HELD : OTHER_KIND;
    }

    private boolean isAnswer(int answer) {
        return answer == NOBODY || now.hasWorld(answer);
    }

    private static boolean isShelf(int d) {
        return d >= 0 && d < SHELVES;
    }

    private static boolean isCrossing(int crossing) {
        return crossing >= 0 && crossing < CROSSINGS;
    }

    private static boolean isSeeds(int n) {
        return n >= 1 && n <= MOST_SEEDS;
    }

    private static boolean isFigure(int figure) {
        return figure >= 0 && figure <= GREATEST_FIGURE;
    }

    private static boolean isRuleKind(int kind) {
        return kind >= 0 && kind < RULE_KINDS;
    }

    private static Rule ruleOf(int kind, int figure) {
        switch (kind) {
            case 1: return new First(figure);
            case 2: return new Most(figure);
            case 3: return new Think(figure);
            case 4: return new Back(figure);
            case 5: return new Told(figure);
            default: return new Rule(figure);
        }
    }

    /** ROADS, WORLDS, SORTS, who is MET, START, what ASKING costs; and tables of what follows from them. */
    private static final class Land {
        int roads = 0;
        final int[] firstEnd = new int[ROADS];
        final int[] secondEnd = new int[ROADS];
        final int[] minutes = new int[ROADS];
        int worlds = 0;
        final int[] chances = new int[WORLDS];
        final int[] goals = new int[WORLDS];
        final int[] shut = new int[WORLDS];
        int sorts = 0;
        final int[] kinds = new int[SORTS];
        final int[] figures = new int[SORTS];
        final int[][] metHere = new int[CROSSINGS][SORTS];
        int start = 0;
        int asking = 2;

        final int[][] ways = new int[WORLDS][CROSSINGS];
        final int[][] nextRoads = new int[WORLDS][CROSSINGS];
        final int[] pleasing = new int[CROSSINGS];
        final int[][] odds = new int[CROSSINGS * (WORLDS + 1)][WORLDS];

        boolean hasRoad(int road) {
            return road >= 0 && road < roads;
        }

        boolean hasWorld(int world) {
            return world >= 0 && world < worlds;
        }

        boolean hasSort(int sort) {
            return sort >= 0 && sort < sorts;
        }

        boolean isReady() {
            return chancesTogether() == HUNDRED;
        }

        int chancesTogether() {
            int together = 0;
            for (int w = 0; w < worlds; w++) {
                together += chances[w];
            }
            return together;
        }

        int minutesTogether() {
            int together = 0;
            for (int r = 0; r < roads; r++) {
                together += minutes[r];
            }
            return together;
        }

        /** Takes what the other was told; the tables are left for workOut. */
        void becomeLike(Land other) {
            roads = other.roads;
            System.arraycopy(other.firstEnd, 0, firstEnd, 0, ROADS);
            System.arraycopy(other.secondEnd, 0, secondEnd, 0, ROADS);
            System.arraycopy(other.minutes, 0, minutes, 0, ROADS);
            worlds = other.worlds;
            System.arraycopy(other.chances, 0, chances, 0, WORLDS);
            System.arraycopy(other.goals, 0, goals, 0, WORLDS);
            System.arraycopy(other.shut, 0, shut, 0, WORLDS);
            sorts = other.sorts;
            System.arraycopy(other.kinds, 0, kinds, 0, SORTS);
            System.arraycopy(other.figures, 0, figures, 0, SORTS);
            for (int c = 0; c < CROSSINGS; c++) {
                System.arraycopy(other.metHere[c], 0, metHere[c], 0, SORTS);
            }
            start = other.start;
            asking = other.asking;
        }

        boolean addRoad(int first, int second, int length) {
            if (roads >= ROADS || !isCrossing(first) || !isCrossing(second) || first == second) {
                return false;
            }
            if (length < 1 || length > LONGEST_ROAD) {
                return false;
            }
            firstEnd[roads] = first;
            secondEnd[roads] = second;
            minutes[roads] = length;
            roads++;
            return true;
        }

        boolean addWorld(int hundredths, int goal, int shutRoads) {
            if (worlds >= WORLDS || !isCrossing(goal) || shutRoads < 0 || shutRoads > GREATEST_SHUT) {
                return false;
            }
            if (hundredths < 1 || hundredths > HUNDRED - chancesTogether()) {
                return false;
            }
            chances[worlds] = hundredths;
            goals[worlds] = goal;
            shut[worlds] = shutRoads;
            worlds++;
            return true;
        }

        boolean addSort(int kind, int figure) {
            if (sorts >= SORTS || kind < 0 || kind >= SORT_KINDS || !isFigure(figure)) {
                return false;
            }
            kinds[sorts] = kind;
            figures[sorts] = figure;
            sorts++;
            return true;
        }

        boolean meet(int crossing, int sort, int hundredths) {
            if (!isCrossing(crossing) || !hasSort(sort) || hundredths < 0) {
                return false;
            }
            if (hundredths > HUNDRED - metTogether(crossing) + metHere[crossing][sort]) {
                return false;
            }
            metHere[crossing][sort] = hundredths;
            return true;
        }

        private int metTogether(int crossing) {
            int together = 0;
            for (int s = 0; s < sorts; s++) {
                together += metHere[crossing][s];
            }
            return together;
        }

        boolean beginAt(int crossing) {
            if (!isCrossing(crossing)) {
                return false;
            }
            start = crossing;
            return true;
        }

        boolean askFor(int cost) {
            if (cost < 0 || cost > DEAREST_ASKING) {
                return false;
            }
            asking = cost;
            return true;
        }

        boolean isShut(int world, int road) {
            return (shut[world] >> road & 1) != 0;
        }

        int otherEnd(int road, int crossing) {
            return firstEnd[road] == crossing ? secondEnd[road] : firstEnd[road];
        }

        /** What one of a SORT says at a CROSSING, if a WORLD is so (there is one at least). */
        int saidBy(int sort, int crossing, int world) {
            int last = worlds - 1;
            switch (kinds[sort]) {
                case 1: return figures[sort] < last ? figures[sort] : last;
                case 2: return pleasing[crossing];
                case 3: return world == last ? 0 : world + 1;
                case 4: return world == 0 ? last : world - 1;
                default: return world;
            }
        }

        /** SORT that is met at a CROSSING with what was drawn (0 .. 99), or NOBODY. */
        int metWith(int crossing, int drawn) {
            int together = 0;
            for (int s = 0; s < sorts; s++) {
                together += metHere[crossing][s];
                if (drawn < together) {
                    return s;
                }
            }
            return NOBODY;
        }

        /** Where in odds the hundredths of an ANSWER at a CROSSING stand, one for each WORLD. */
        static int oddsPlace(int crossing, int answer) {
            return crossing * (WORLDS + 1) + 1 + answer;
        }

        /** The tables anew, so that calls need not search ways again and again. */
        void workOut() {
            for (int w = 0; w < worlds; w++) {
                workOutWays(w);
                for (int c = 0; c < CROSSINGS; c++) {
                    nextRoads[w][c] = searchNext(w, c);
                }
            }
            for (int c = 0; c < CROSSINGS; c++) {
                pleasing[c] = searchPleasing(c);
            }
            for (int c = 0; c < CROSSINGS; c++) {
                workOutOdds(c);
            }
        }

        private void workOutWays(int world) {
            int[] way = ways[world];
            for (int c = 0; c < CROSSINGS; c++) {
                way[c] = NONE;
            }
            way[goals[world]] = 0;
            // no least way has more roads than there are other crossings
            for (int round = 1; round < CROSSINGS; round++) {
                for (int r = 0; r < roads; r++) {
                    if (!isShut(world, r)) {
                        shorten(way, firstEnd[r], secondEnd[r], minutes[r]);
                        shorten(way, secondEnd[r], firstEnd[r], minutes[r]);
                    }
                }
            }
        }

        private static void shorten(int[] way, int from, int over, int length) {
            if (way[over] < NONE && way[over] + length < way[from]) {
                way[from] = way[over] + length;
            }
        }

        private int searchNext(int world, int from) {
            int[] way = ways[world];
            if (from == goals[world] || way[from] >= NONE) {
                return NOWHERE;
            }
            for (int r = 0; r < roads; r++) {
                boolean begins = firstEnd[r] == from || secondEnd[r] == from;
                if (begins && !isShut(world, r) && way[otherEnd(r, from)] + minutes[r] == way[from]) {
                    return r;
                }
            }
            return NOWHERE;
        }

        private int searchPleasing(int crossing) {
            int shortest = 0;
            for (int w = 1; w < worlds; w++) {
                if (ways[w][crossing] < ways[shortest][crossing]) {
                    shortest = w;
                }
            }
            return shortest;
        }

        private void workOutOdds(int crossing) {
            for (int w = 0; w < worlds; w++) {
                for (int answer = NOBODY; answer < WORLDS; answer++) {
                    odds[oddsPlace(crossing, answer)][w] = 0;
                }
                odds[oddsPlace(crossing, NOBODY)][w] = HUNDRED - metTogether(crossing);
                for (int s = 0; s < sorts; s++) {
                    odds[oddsPlace(crossing, saidBy(s, crossing, w))][w] += metHere[crossing][s];
                }
            }
        }
    }

    /** Reads a LAND from the bytes of a ROW: first its form, to its end; then STATEMENT behind STATEMENT. */
    private static final class Reader {
        private int[] bytes = new int[0];
        private final int[] told = new int[3];

        /** How many STATEMENTS the LAND took; or the FAULT, and then the LAND may have taken some. */
        int readInto(Row row, Land land) {
            bytes = row.elements;
            int statements = statementsInForm();
            return statements < 0 ? statements : tellTo(land, statements);
        }

        /** How many STATEMENTS the bytes are, or a FAULT of kind 1. */
        private int statementsInForm() {
            int at = 0;
            int statements = 0;
            // a STATEMENT has more than one byte: there are never so many of them
            while (statements < ELEMENTS && (statements == 0 || at < bytes.length)) {
                int behind = placeBehind(at);
                if (behind < 0) {
                    return -1000 - ~behind;
                }
                at = behind;
                statements++;
            }
            return statements;
        }

        /** Tells the LAND so many STATEMENTS: how many, or a FAULT of kind 2. */
        private int tellTo(Land land, int statements) {
            int at = 0;
            for (int i = 0; i < statements; i++) {
                int behind = placeBehind(at);
                if (!isTold(byteAt(at), land)) {
                    return -2000 - at;
                }
                at = behind;
            }
            return statements;
        }

        /** Reads one STATEMENT's numbers: the place behind it, or ~ the place of the first wrong byte. */
        private int placeBehind(int start) {
            String form = formOf(byteAt(start));
            if (form.isEmpty()) {
                return ~start;
            }
            int at = start + 1;
            int numbers = 0;
            for (int i = 0; i < form.length(); i++) {
                int wanted = form.charAt(i);
                int length = lengthAt(at, wanted);
                if (length == 0) {
                    return ~at;
                }
                if ((wanted == 'd' || wanted == 'n') && numbers < told.length) {
                    told[numbers] = numberAt(at, length);
                    numbers++;
                }
                at += length;
            }
            return at;
        }

        /** How many bytes at a place are what is wanted (as in a form); 0, if they aren't. */
        private int lengthAt(int at, int wanted) {
            switch (wanted) {
                case 'd': return digitsAt(at, 1);
                case 'n': return digitsAt(at, LONGEST_NUMBER);
                default: return byteAt(at) == wanted ? 1 : 0;
            }
        }

        /** What stands behind a STATEMENT's letter (d a digit, n a NUMBER); nothing, if there is no such letter. */
        private static String formOf(int letter) {
            switch (letter) {
                case 'r':
                case 'm': return "dd n;";
                case 'w': return "n d n;";
                case 's': return "d n;";
                case 'b': return "d;";
                case 'a': return "n;";
                default: return "";
            }
        }

        /** The byte at a place; behind the last one a number that no sign has. */
        private int byteAt(int at) {
            return at >= 0 && at < bytes.length ? bytes[at] : 0;
        }

        /** How many digits of a NUMBER stand from a place on; behind a leading 0 none counts. */
        private int digitsAt(int at, int most) {
            if (byteAt(at) == '0') {
                return 1;
            }
            int digits = 0;
            for (int i = 0; i < most && isDigit(byteAt(at + i)); i++) {
                digits++;
            }
            return digits;
        }

        private static boolean isDigit(int sign) {
            return sign >= '0' && sign <= '9';
        }

        private int numberAt(int at, int digits) {
            int number = 0;
            for (int i = 0; i < digits; i++) {
                number = number * 10 + byteAt(at + i) - '0';
            }
            return number;
        }

        /** Tells the LAND the STATEMENT whose numbers were read; false, if it isn't as told. */
        private boolean isTold(int letter, Land land) {
            switch (letter) {
                case 'r': return land.addRoad(told[0], told[1], told[2]);
                case 'w': return land.addWorld(told[0], told[1], told[2]);
                case 's': return land.addSort(told[0], told[1]);
                case 'm': return land.meet(told[0], told[1], told[2]);
                case 'b': return land.beginAt(told[0]);
                case 'a': return land.askFor(told[0]);
                default: return false;
            }
        }
    }

    /** A weight for each WORLD. What is heard or found makes fresh ones, which hold only when they settle. */
    private static final class Thought {
        final long[] weights = new long[WORLDS];
        private final long[] fresh = new long[WORLDS];

        void becomeChances(Land land) {
            for (int w = 0; w < WORLDS; w++) {
                weights[w] = land.hasWorld(w) ? land.chances[w] : 0;
            }
        }

        void becomeLike(Thought other) {
            System.arraycopy(other.weights, 0, weights, 0, WORLDS);
        }

        long all() {
            long together = 0;
            for (int w = 0; w < WORLDS; w++) {
                together += weights[w];
            }
            return together;
        }

        int likeliest() {
            int greatest = 0;
            for (int w = 1; w < WORLDS; w++) {
                if (weights[w] > weights[greatest]) {
                    greatest = w;
                }
            }
            return greatest;
        }

        /** The weight of a WORLD by all, cut. */
        long hundredthsOf(int world) {
            long together = all();
            return together > 0 ? HUNDRED * weights[world] / together : 0;
        }

        void hear(Land land, int crossing, int answer) {
            int[] odds = land.odds[Land.oddsPlace(crossing, answer)];
            for (int w = 0; w < WORLDS; w++) {
                fresh[w] = weights[w] * odds[w];
            }
        }

        /** Two ANSWERS alike, of whom the second had it from the first with q hundredths. */
        void hearTwice(Land land, int crossing, int answer, int q) {
            int[] odds = land.odds[Land.oddsPlace(crossing, answer)];
            for (int w = 0; w < WORLDS; w++) {
                fresh[w] = weights[w] * odds[w] * (HUNDRED * q + (HUNDRED - q) * odds[w]);
            }
        }

        void findRoad(Land land, int road, boolean open) {
            for (int w = 0; w < WORLDS; w++) {
                fresh[w] = land.isShut(w, road) == open ? 0 : weights[w];
            }
        }

        void findNoGoal(Land land, int crossing) {
            for (int w = 0; w < WORLDS; w++) {
                fresh[w] = land.goals[w] == crossing ? 0 : weights[w];
            }
        }

        void giveUp(int world) {
            for (int w = 0; w < WORLDS; w++) {
                fresh[w] = w == world ? 0 : weights[w];
            }
        }

        void believe(int world) {
            for (int w = 0; w < WORLDS; w++) {
                fresh[w] = w == world ? weights[w] : 0;
            }
        }

        /** Takes the fresh weights, divided and halved; false, and no change, if all of them are 0. */
        boolean settles() {
            long divisor = 0;
            long greatest = 0;
            for (int w = 0; w < WORLDS; w++) {
                divisor = greatestDivisor(divisor, fresh[w]);
                greatest = Math.max(greatest, fresh[w]);
            }
            if (divisor <= 0) {
                return false;
            }
            for (int w = 0; w < WORLDS; w++) {
                weights[w] = fresh[w] / divisor;
            }
            greatest /= divisor;
            for (int i = 0; i < 64 && greatest > HEAVIEST; i++) {
                halve();
                greatest /= 2;
            }
            return true;
        }

        private void halve() {
            for (int w = 0; w < WORLDS; w++) {
                if (weights[w] > 1) {
                    weights[w] /= 2;
                }
            }
        }

        static long greatestDivisor(long one, long other) {
            long greater = one;
            long less = other;
            // Euclid's steps for longs are fewer than 100
            for (int i = 0; i < 100 && less != 0; i++) {
                long rest = greater % less;
                greater = less;
                less = rest;
            }
            return greater;
        }
    }

    /** One WALK after another in its LAND; what the last one asked and went can be read. */
    private static final class Walker {
        final Land land = new Land();
        private final Thought mind = new Thought();
        private final int[] votes = new int[WORLDS];
        private Rule rule = new Rule(0);
        private int world;
        private int z;
        private int post = NOWHERE;
        private int at;
        private int minutes;
        private boolean renewed;
        int asked;
        int gone;

        /** From a CROSSING by a THOUGHT, which stays as it is. */
        void setOutByMind(Rule by, Thought thought, int trueWorld, int from) {
            setOut(by, trueWorld, from, NOWHERE);
            mind.becomeLike(thought);
        }

        /** From START by a RULE, a seed and a POST (or NOWHERE). */
        void setOutByRule(Rule by, int trueWorld, int seed, int postAt) {
            setOut(by, trueWorld, land.start, postAt);
            z = seed;
            mind.becomeChances(land);
            if (!isThere()) {
                believeAtStart();
            }
        }

        private void setOut(Rule by, int trueWorld, int from, int postAt) {
            rule = by;
            world = trueWorld;
            at = from;
            post = postAt;
            minutes = 0;
            asked = 0;
            gone = 0;
            renewed = false;
        }

        private boolean isThere() {
            return at == land.goals[world];
        }

        /** Goes all the WALK that was set out on: its MINUTES, or LOST. */
        int minutesThere() {
            comeHere();
            for (int steps = 0; steps < STEPS && !isThere(); steps++) {
                int goneBefore = gone;
                stepOn();
                if (!mind.settles() && !beginsAgain()) {
                    return LOST;
                }
                // the last step comes to a CROSSING as any other does
                if (gone > goneBefore) {
                    comeHere();
                }
            }
            return isThere() ? minutes : LOST;
        }

        private void comeHere() {
            if (isThere() || !rule.asksOnComing(mind)) {
                return;
            }
            int answer = askOnce();
            if (at == post) {
                mind.believe(answer);
            } else {
                mind.hear(land, at, answer);
            }
            // an ANSWER by which all would be 0 changes nothing
            mind.settles();
        }

        private void stepOn() {
            int likeliest = mind.likeliest();
            int road = land.nextRoads[likeliest][at];
            if (land.goals[likeliest] == at) {
                mind.findNoGoal(land, at);
            } else if (!land.hasRoad(road)) {
                mind.giveUp(likeliest);
            } else if (land.isShut(world, road)) {
                mind.findRoad(land, road, false);
            } else {
                minutes += land.minutes[road];
                gone++;
                at = land.otherEnd(road, at);
                mind.findRoad(land, road, true);
            }
        }

        /** CHANCES again, where the RULE has that and had it not yet in this WALK. */
        private boolean beginsAgain() {
            if (renewed || !rule.hasSecondThoughts()) {
                return false;
            }
            renewed = true;
            mind.becomeChances(land);
            return true;
        }

        private void believeAtStart() {
            int times = rule.asksAtStart();
            int believed = times > 0 ? mostSaid(times) : rule.toldWorld();
            if (land.hasWorld(believed)) {
                mind.believe(believed);
                mind.settles();
            }
        }

        /** WORLD that most said, of several the least; NO_WORLD, if all were nobody. */
        private int mostSaid(int times) {
            for (int w = 0; w < WORLDS; w++) {
                votes[w] = 0;
            }
            for (int i = 0; i < times; i++) {
                int said = askOnce();
                if (land.hasWorld(said)) {
                    votes[said]++;
                }
            }
            int most = 0;
            for (int w = 1; w < WORLDS; w++) {
                if (votes[w] > votes[most]) {
                    most = w;
                }
            }
            return votes[most] > 0 ? most : NO_WORLD;
        }

        /** ANSWER of who is met here (the cost and the seed go on in any case). */
        private int askOnce() {
            asked++;
            minutes += land.asking;
            z = z * 1103515245 + 12345;
            if (at == post) {
                return world;
            }
            int sort = land.metWith(at, (z & GREATEST_INT) / 65536 % HUNDRED);
            return sort == NOBODY ? NOBODY : land.saidBy(sort, at, world);
        }
    }

    /** KIND 0: never asks. */
    private static class Rule {
        final int figure;

        Rule(int figure) {
            this.figure = figure;
        }

        int heaviness() {
            return 3;
        }

        int asksAtStart() {
            return 0;
        }

        boolean asksOnComing(Thought mind) {
            return false;
        }

        /** WORLD that is believed from the first on, or NO_WORLD. */
        int toldWorld() {
            return NO_WORLD;
        }

        /** Whether a THOUGHT that would be all 0 is CHANCES again. */
        boolean hasSecondThoughts() {
            return false;
        }

        void fail() {
            if (figure > 0) {
                throw new IllegalStateException("a rule's failure");
            }
        }
    }

    private static class First extends Rule {
        First(int figure) {
            super(figure);
        }

        int heaviness() {
            return super.heaviness() + 1;
        }

        int asksAtStart() {
            return 1;
        }

        boolean hasSecondThoughts() {
            return true;
        }
    }

    private static final class Most extends First {
        Most(int figure) {
            super(figure);
        }

        int heaviness() {
            return super.heaviness() + figure;
        }

        int asksAtStart() {
            return figure;
        }

        void fail() {
            if (figure > 0) {
                throw new UnsupportedOperationException("a most's failure");
            }
        }
    }

    private static class Think extends Rule {
        Think(int figure) {
            super(figure);
        }

        int heaviness() {
            return 2 * super.heaviness();
        }

        boolean asksOnComing(Thought mind) {
            return true;
        }
    }

    private static final class Back extends Think {
        Back(int figure) {
            super(figure);
        }

        int heaviness() {
            return super.heaviness() + figure;
        }

        boolean asksOnComing(Thought mind) {
            return HUNDRED * mind.weights[mind.likeliest()] < figure * mind.all();
        }

        void fail() {
            if (figure > 0) {
                throw new NoSuchElementException("a back's failure");
            }
        }
    }

    private static final class Told extends Rule {
        Told(int figure) {
            super(figure);
        }

        int heaviness() {
            return super.heaviness() + 10 * figure;
        }

        int toldWorld() {
            return figure;
        }

        boolean hasSecondThoughts() {
            return true;
        }

        void fail() {
            // a told one has no failure
        }
    }

    /** Elements of one SORT (0 bytes, 1 shorts, 2 ints). */
    private static final class Row {
        final int sort;
        final int[] elements;

        Row(int sort, int size) {
            this.sort = sort;
            this.elements = new int[size < 0 ? 0 : size];
        }

        boolean hasPlace(int i) {
            return i >= 0 && i < elements.length;
        }

        /** Whether n places from i on are there; no sum, as it could wrap around. */
        boolean hasPlaces(int i, int n) {
            return n >= 0 && i >= 0 && i <= elements.length && n <= elements.length - i;
        }

        int lowestBits(int v) {
            switch (sort) {
                case BYTES: return (byte) v;
                case SHORTS: return (short) v;
                default: return v;
            }
        }

        int leastNumber() {
            switch (sort) {
                case BYTES: return -128;
                case SHORTS: return -32768;
                default: return LEAST_INT;
            }
        }
    }
}
