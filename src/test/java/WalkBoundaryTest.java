/** The document's section 4: each sentence that names a boundary, on both sides of it. */
public final class WalkBoundaryTest {
    private static final int LOST = 99999;
    private static final int MIN = Integer.MIN_VALUE;
    private static final int MAX = Integer.MAX_VALUE;

    private static final int RULE = 0;
    private static final int FIRST = 1;
    private static final int MOST = 2;
    private static final int THINK = 3;
    private static final int BACK = 4;
    private static final int TOLD = 5;

    /**
     * A star: WORLD 1 is likeliest; SORT 0 always says 0, SORT 1 always 2. In truth 0 one who is told 0 goes 10
     * MINUTES, one who isn't told 30, one who is told 2 goes 50.
     */
    private static final String STAR = "r01 10;r02 10;r03 10;w30 1 0;w40 2 0;w30 3 0;s1 0;s1 2;a1;";
    private static final int TOLD_RIGHT = 10;
    private static final int TOLD_NOTHING = 30;
    private static final int TOLD_WRONG = 50;

    private final Checks checks = new Checks();

    public static void main(String[] args) {
        WalkBoundaryTest test = new WalkBoundaryTest();
        test.startIsTheGoal();
        test.drawnBelowTheHundredths();
        test.drawnAtTheEdges();
        test.seedsWrapAround();
        test.ruleNeverAsks();
        test.firstAsksOnce();
        test.mostOfSeveral();
        test.mostAsksFigureTimes();
        test.thinkAsksAsItComes();
        test.thinkChangesNothing();
        test.backBelowTheFigure();
        test.toldIfThereIsSuchAOne();
        test.chancesAgainOnce();
        test.chancesAgainForgetWhatWasFound();
        test.eachAskingCosts();
        test.twoHundredSteps();
        test.meanOfSeeds();
        test.meanOfLost();
        test.duskByAMinute();
        test.bestOfSeveral();
        test.bestOfARow();
        test.postOfSeveral();
        test.postIsThatWorld();
        test.imageOfAll();
        test.figuresAndKinds();
        test.weights();
        test.failures();
        test.fiveHundredAndTwelveCalls();
        test.checks.end("WalkBoundaryTest");
    }

    private void due(String what, long got, long want) {
        checks.due(what, got, want);
    }

    /** MINUTES, how often it asked and ROADS gone, by the RULE on SHELF 1. */
    private void by(String what, AskNext x, int world, int z, int... due) {
        for (int i = 0; i < due.length; i++) {
            due(what + ", what " + i, x.by(1, world, z, i), due[i]);
        }
    }

    private static AskNext keeping(AskNext x, int kind, int figure) {
        x.keep(1, 1, kind, figure);
        return x;
    }

    private static int after(int z) {
        return z * 1103515245 + 12345;
    }

    private static int drawn(int zAfter) {
        return (zAfter & MAX) / 65536 % 100;
    }

    /** The first seed behind a given one with which these are drawn one behind the other (-1: any). */
    private static int seedOf(int from, int... draws) {
        for (int seed = from; seed < from + 50_000_000; seed++) {
            int z = seed;
            boolean fits = true;
            for (int i = 0; i < draws.length && fits; i++) {
                z = after(z);
                fits = draws[i] < 0 || drawn(z) == draws[i];
            }
            if (fits) {
                return seed;
            }
        }
        throw new IllegalStateException("no such seed");
    }

    // "(START the GOAL: it is THERE at once, and asks nobody)"
    private void startIsTheGoal() {
        for (int kind = RULE; kind <= TOLD; kind++) {
            AskNext x = keeping(Checks.with(STAR, "m10 50;m11 50;m00 50;b1;a30;"), kind, 9);
            by("there at once, kind " + kind, x, 0, 7, 0, 0, 0);
            x.set(0, 2);
            by("there at once, kind " + kind, x, 1, 7, 0, 0, 0);
            x.set(0, 0);
            int asked = kind == FIRST ? 1 : kind == MOST ? 9 : kind == THINK ? 1 : 0;
            due("not there at once, kind " + kind, Math.min(asked, x.by(1, 0, 7, 1)), asked);
            checks.isTrue("not there at once, kind " + kind, x.by(1, 0, 7, 0) > 0);
        }
    }

    private static int minutesOf(int drawn, int first, int second) {
        return 1 + (drawn < first ? TOLD_RIGHT : drawn < first + second ? TOLD_WRONG : TOLD_NOTHING);
    }

    // "is below the hundredths of SORT 0, or of 0 and 1 together, ..; else nobody"
    private void drawnBelowTheHundredths() {
        int[][] shares = {{30, 20}, {0, 40}, {40, 0}, {1, 98}, {50, 50}};
        for (int[] share : shares) {
            AskNext x = keeping(Checks.with(STAR, "m00 " + share[0] + ";m01 " + share[1] + ";"), FIRST, 0);
            for (int drawn = 0; drawn < 100; drawn++) {
                int z = seedOf(1000, drawn);
                by("drawn " + drawn, x, 0, z, minutesOf(drawn, share[0], share[1]), 1);
            }
        }
    }

    private void drawnAtTheEdges() {
        int[][] edges = {{0, 0, 0}, {0, 1, 0}, {0, 0, 1}, {99, 99, 0}, {99, 100, 0}, {99, 0, 100}, {99, 0, 99},
            {99, 50, 50}, {99, 50, 49}, {50, 50, 0}, {50, 51, 0}, {50, 25, 25}, {50, 25, 26}};
        for (int[] edge : edges) {
            AskNext x = keeping(Checks.with(STAR, "m00 " + edge[1] + ";m01 " + edge[2] + ";"), FIRST, 0);
            by("drawn " + edge[0] + " of " + edge[1] + " and " + edge[2], x, 0, seedOf(0, edge[0]),
                    minutesOf(edge[0], edge[1], edge[2]), 1);
        }
        AskNext six = Checks.with("r01 10;r02 10;w50 1 0;w50 2 0;s1 0;s1 0;s1 0;s1 0;s1 0;s1 1;", "m00 10;m01 10;m02 10;m03 10;m04 10;m05 10;a0;");
        keeping(six, FIRST, 0);
        due("of 0 to 4 together", six.by(1, 1, seedOf(0, 49), 0), 30);
        due("of 0 to 5 together", six.by(1, 1, seedOf(0, 50), 0), 10);
        due("of 0 to 5 together", six.by(1, 1, seedOf(0, 59), 0), 10);
        due("nobody", six.by(1, 1, seedOf(0, 60), 0), 30);
    }

    // "z becomes z times 1103515245 plus 12345 (an int), (z without its sign's bit over 65536, cut)"
    private void seedsWrapAround() {
        AskNext x = keeping(Checks.with(STAR, "m00 30;m01 20;"), FIRST, 0);
        int below = 0;
        for (int z : new int[] {0, 1, -1, 2, -2, MAX, MAX - 1, MIN, MIN + 1, 65536, -65536, 1 << 30, -12345}) {
            below += after(z) < 0 ? 1 : 0;
            due("seed " + z, x.by(1, 0, z, 0), minutesOf(drawn(after(z)), 30, 20));
        }
        checks.isTrue("some have a sign", below > 0 && below < 13);
        // 0 becomes 12345, which over 65536 is 0
        due("drawn 0 is below 1", keeping(Checks.with(STAR, "m00 1;"), FIRST, 0).by(1, 0, 0, 0), 11);
        due("drawn 0 isn't below 0", keeping(Checks.with(STAR, "m01 1;"), FIRST, 0).by(1, 0, 0, 0), 51);
    }

    // "RULE: never asks"
    private void ruleNeverAsks() {
        AskNext x = keeping(Checks.with(STAR, "m00 100;m10 100;m20 100;"), RULE, 99);
        by("never", x, 0, 0, TOLD_NOTHING, 0, 3);
        by("never", x, 2, 0, 50, 0, 5);
        by("never", x, 1, 0, 10, 0, 1);
    }

    // "FIRST: asks once at START, and believes the ANSWER (.. of nobody nothing)"
    private void firstAsksOnce() {
        AskNext x = keeping(Checks.with(STAR, "m00 30;m01 20;"), FIRST, 99);
        by("told right", x, 0, seedOf(0, 29), 11, 1, 1);
        by("told wrong", x, 0, seedOf(0, 30), 51, 1, 5);
        by("told wrong", x, 0, seedOf(0, 49), 51, 1, 5);
        by("nobody", x, 0, seedOf(0, 50), 31, 1, 3);
        AskNext elsewhere = keeping(Checks.with(STAR, "m10 100;m20 100;m30 100;"), FIRST, 0);
        by("only at start", elsewhere, 0, 7, 31, 1, 3);
    }

    // "MOST: .. believes what most said (of several the least; nobody isn't counted; nothing, if all were nobody)"
    private void mostOfSeveral() {
        // below 30 they say 0, below 60 they say 2, else it is nobody
        AskNext x = Checks.with(STAR, "m00 30;m01 30;");
        int[][] draws = {{29, 30}, {30, 29}, {30, 60}, {60, 59}, {60, 60}, {0, 60}, {99, 0}, {30, 59}, {0, 29}};
        int[] due = {TOLD_RIGHT, TOLD_RIGHT, TOLD_WRONG, TOLD_WRONG, TOLD_NOTHING, TOLD_RIGHT, TOLD_RIGHT, TOLD_WRONG,
            TOLD_RIGHT};
        keeping(x, MOST, 2);
        for (int i = 0; i < draws.length; i++) {
            by("drawn " + draws[i][0] + " and " + draws[i][1], x, 0, seedOf(0, draws[i]), 2 + due[i], 2);
        }
        keeping(x, MOST, 3);
        by("nobody twice isn't counted", x, 0, seedOf(0, 80, 40, 90), 3 + TOLD_WRONG, 3);
        by("two of three", x, 0, seedOf(0, 10, 40, 50), 3 + TOLD_WRONG, 3);
        by("two of three", x, 0, seedOf(0, 40, 10, 20), 3 + TOLD_RIGHT, 3);
        by("one each and nobody", x, 0, seedOf(0, 40, 70, 20), 3 + TOLD_RIGHT, 3);
        by("nobody thrice", x, 0, seedOf(0, 60, 70, 99), 3 + TOLD_NOTHING, 3);
        AskNext first = Checks.with("r01 10;r02 10;w50 1 0;w50 2 0;s1 1;s1 0;m00 30;m01 30;a0;");
        keeping(first, MOST, 2);
        by("of several the least world, not the first sort", first, 0, seedOf(0, 0, 30), 10, 2);
    }

    // "asks FIGURE times at START"
    private void mostAsksFigureTimes() {
        AskNext x = Checks.with(STAR, "m00 100;");
        for (int figure : new int[] {0, 1, 2, 98, 99}) {
            keeping(x, MOST, figure);
            by("figure " + figure, x, 0, 5, figure + (figure == 0 ? TOLD_NOTHING : TOLD_RIGHT), figure);
        }
        due("100", x.keep(1, 1, MOST, 100), -1);
    }

    // "asks once as it comes to a CROSSING (at START, too; again as it comes again; not where it is THERE)"
    private void thinkAsksAsItComes() {
        AskNext line = keeping(Checks.with("r01 1;r12 1;w60 2 0;w40 3 0;a5;s0 0;"), THINK, 0);
        by("at 0 and 1, not at 2", line, 0, 7, 12, 2, 2);
        line.set(0, 1);
        by("at 1, not at 2", line, 0, 7, 6, 1, 1);
        line.set(0, 2);
        by("not at 2", line, 0, 7, 0, 0, 0);
        AskNext star = keeping(Checks.with(STAR), THINK, 0);
        by("at 0, at 2, again at 0", star, 0, 7, TOLD_NOTHING + 3, 3, 3);
        AskNext barred = keeping(Checks.with("r01 1;r01 2;r01 3;w60 1 0;w30 1 1;w10 1 3;a5;s0 0;"), THINK, 0);
        by("comes to 0 once, though roads are found shut", barred, 2, 7, 8, 1, 1);
        AskNext told = keeping(Checks.with("r01 1;r12 1;w60 0 0;w40 2 0;s0 0;m00 100;a5;"), THINK, 0);
        by("at start, though the likeliest goal is there", told, 1, 7, 12, 2, 2);
    }

    // "(one by which all would be 0 changes nothing)"
    private void thinkChangesNothing() {
        // in truth 0 there is no way: world 0 is out at 0, but who is met at 1 knows, and says 0
        AskNext x = keeping(Checks.with("r01 1;r12 1;w60 7 0;w40 2 0;s0 0;m10 100;a0;"), THINK, 0);
        by("it goes on to 2, and asks there", x, 0, 7, LOST, 3, 2);
        by("told at 1 that it is 1", x, 1, 7, 2, 2, 2);
        AskNext back = keeping(Checks.with("r01 1;r12 1;w40 7 0;w30 2 0;w30 5 0;s0 0;m10 100;a0;"), BACK, 99);
        by("back as well, at 0, 1 and 2", back, 0, 7, LOST, 3, 2);
        AskNext told = keeping(Checks.with("r01 1;r12 1;w60 2 0;w40 7 0;s0 0;m10 100;a0;"), THINK, 0);
        by("one is left by the answer: it changes all", told, 1, 7, LOST, 2, 1);
    }

    // "asks only where the LIKELIEST WORLD's weight is less than FIGURE hundredths of all"
    private void backBelowTheFigure() {
        AskNext x = Checks.with("r01 1;r12 1;w40 2 0;w20 3 0;w40 4 1;a0;s0 0;");
        int[][] due = {{0, 0}, {39, 0}, {40, 0}, {41, 1}, {66, 1}, {67, 2}, {99, 2}};
        for (int[] d : due) {
            keeping(x, BACK, d[0]);
            // 40 of 100 at 0; then road 0 is open: 2 of 3 at 1
            by("figure " + d[0], x, 0, 7, 2, d[1], 2);
        }
        AskNext sure = keeping(Checks.with("r01 1;w100 1 0;a0;"), BACK, 99);
        by("100 isn't less than 99", sure, 0, 7, 1, 0, 1);
        AskNext nearly = Checks.with("r01 1;w99 1 0;w1 2 0;a0;");
        by("99 isn't less than 99", keeping(nearly, BACK, 99), 0, 7, 1, 0, 1);
        AskNext less = Checks.with("r01 1;w98 1 0;w2 2 0;a0;");
        by("98 is less than 99", keeping(less, BACK, 99), 0, 7, 1, 1, 1);
    }

    // "TOLD: believes the WORLD FIGURE from the first on (if there is such a one)"
    private void toldIfThereIsSuchAOne() {
        AskNext x = Checks.with(STAR, "m00 100;");
        int[] figures = {0, 1, 2, 3, 4, 5, 99};
        int[] due = {TOLD_RIGHT, TOLD_NOTHING, TOLD_WRONG, TOLD_NOTHING, TOLD_NOTHING, TOLD_NOTHING, TOLD_NOTHING};
        for (int i = 0; i < figures.length; i++) {
            by("told " + figures[i], keeping(x, TOLD, figures[i]), 0, 7, due[i], 0);
        }
        AskNext five = Checks.with("r01 1;r05 2;w40 1 0;w20 2 0;w20 3 0;w10 4 0;w10 5 0;");
        by("the last of five", keeping(five, TOLD, 4), 4, 7, 2, 0, 1);
        by("a sixth", keeping(five, TOLD, 5), 4, 7, 4, 0, 3);
    }

    // "Where the THOUGHT of a FIRST, MOST, TOLD would be all 0, it is CHANCES again (once in a WALK ..; then LOST)"
    private void chancesAgainOnce() {
        for (int kind = FIRST; kind <= TOLD; kind++) {
            // who is met says 1 in any case, but to TOLD, who believes it from the first on
            AskNext x = keeping(Checks.with("r01 10;r02 10;w60 1 0;w40 2 0;s1 1;m00 100;a0;"), kind, 1);
            boolean again = kind != THINK && kind != BACK;
            by("misled, kind " + kind, x, 0, 7, again ? 30 : 10);
            AskNext lost = keeping(Checks.with("r01 10;r02 10;w30 1 0;w40 2 0;w30 7 0;s1 1;m00 100;a0;"), kind, 1);
            // to 2; then, by CHANCES again or by what is left, from 2 to 1, and no more
            by("lost, kind " + kind, lost, 2, 7, LOST, kind == BACK || kind == TOLD ? 0 : kind == THINK ? 4 : 1, 3);
        }
        AskNext twice = keeping(Checks.with("r01 10;r02 10;w30 1 0;w40 2 0;w30 7 0;"), TOLD, 9);
        // to 2 and to 1, all are out; CHANCES again: to 2 and to 1 once more
        by("not told, then again once", twice, 2, 7, LOST, 0, 7);
        by("a rule doesn't", keeping(twice, RULE, 0), 2, 7, LOST, 0, 3);
        by("think doesn't", keeping(twice, THINK, 0), 2, 7, LOST, 4, 3);
        by("back doesn't", keeping(twice, BACK, 99), 2, 7, LOST, 4, 3);
        by("first does, if it is told nothing", keeping(twice, FIRST, 0), 2, 7, LOST, 1, 7);
        by("most does, if it is told nothing", keeping(twice, MOST, 2), 2, 7, LOST, 2, 7);
    }

    private void chancesAgainForgetWhatWasFound() {
        // told 1: road 1 is found shut; CHANCES again: to 1 by road 0, as world 0 says, and back
        AskNext x = Checks.with("r01 10;r02 10;r02 15;w50 1 0;w30 2 0;w20 2 2;");
        by("world 0 is likeliest again", keeping(x, TOLD, 1), 2, 7, 10 + 10 + 15, 0, 3);
    }

    // "Each ASKING costs its minutes"
    private void eachAskingCosts() {
        AskNext x = keeping(Checks.with(STAR, "m00 100;"), MOST, 7);
        for (int cost : new int[] {0, 1, 29, 30}) {
            x.set(1, cost);
            by("cost " + cost, x, 0, 7, 10 + 7 * cost, 7);
        }
        x.set(1, 31);
        by("no such cost", x, 0, 7, 10 + 7 * 30, 7);
    }

    /** One sways between 1 and 2, as who is met there mostly misleads. */
    private static final String SWAYING = "r01 60;r12 60;r23 60;w50 0 0;w50 3 0;s0 0;s1 0;s1 1;";
    private static final String MISLEADING = "m10 1;m12 99;m20 1;m21 99;b1;a0;";

    // "or 200 such steps were made: LOST"
    private void twoHundredSteps() {
        AskNext x = keeping(Checks.with(SWAYING, MISLEADING), THINK, 0);
        int there = 0;
        int asThere = 0;
        int lost = 0;
        for (int z = 0; z < 150; z++) {
            int gone = x.by(1, 0, z, 2);
            int asked = x.by(1, 0, z, 1);
            int minutes = x.by(1, 0, z, 0);
            checks.isTrue("200 at most", gone <= 200);
            if (minutes == LOST) {
                due("lost after 200", gone, 200);
                due("asked at start and as it came", asked, 201);
                lost++;
            } else {
                due("there", minutes, 60 * gone);
                due("asked at start and as it came, but not there", asked, gone);
                there++;
                asThere += gone > 150 ? 1 : 0;
            }
        }
        checks.isTrue("both there and lost, " + there + " and " + lost, there > 0 && lost > 0 && asThere > 0);
    }

    // "MEAN of a RULE over WORLDS by n seeds z, z and 1, .."; DUSK "in how many of these"
    private void meanOfSeeds() {
        AskNext x = keeping(Checks.with(STAR, "m00 30;m01 30;"), FIRST, 0);
        int[] chances = {30, 40, 30};
        for (int first : new int[] {0, -3, MAX - 1, MAX, MIN}) {
            for (int n : new int[] {1, 2, 19, 20}) {
                int mean = 0;
                int dusk = 0;
                for (int i = 0; i < n; i++) {
                    int drawn = drawn(after(first + i));
                    // MINUTES in truth 0, 1 and 2, if 0, 2 or nothing was told
                    int[] minutes = drawn < 30 ? new int[] {11, 31, 71} : drawn < 60 ? new int[] {51, 31, 11}
                            : new int[] {31, 11, 51};
                    for (int w = 0; w < 3; w++) {
                        mean += chances[w] * minutes[w];
                        dusk += minutes[w] <= 31 ? chances[w] : 0;
                    }
                }
                due("mean of " + n + " from " + first, x.mean(1, n, first), mean);
                due("dusk of " + n + " from " + first, x.dusk(1, n, first, 31), dusk);
            }
        }
        due("none", x.mean(1, 0, 0), -1);
        due("21", x.mean(1, 21, 0), -1);
    }

    // "MINUTES (LOST as 999)"
    private void meanOfLost() {
        AskNext x = keeping(Checks.with("r01 10;w60 1 0;w40 7 0;s0 0;m00 100;a30;"), RULE, 0);
        due("one is lost", x.mean(1, 1, 0), 60 * 10 + 40 * 999);
        keeping(x, MOST, 33);
        due("there after 1000", x.mean(1, 1, 0), 60 * 1000 + 40 * 999);
        keeping(x, MOST, 99);
        due("there after 2980", x.mean(1, 2, 0), 2 * (60 * 2980 + 40 * 999));
        x.set(1, 0);
        x.set(0, 1);
        due("there at once", x.mean(1, 20, 0), 20 * 40 * 999);
    }

    // "it is THERE by a told MINUTE"; "a MINUTE (0 .. 9999)"
    private void duskByAMinute() {
        AskNext x = keeping(Checks.with("r01 10;r02 10;w60 1 0;w40 2 0;"), RULE, 0);
        int[][] due = {{0, 0}, {9, 0}, {10, 60}, {11, 60}, {29, 60}, {30, 100}, {31, 100}, {9999, 100}};
        for (int[] d : due) {
            due("by " + d[0], x.dusk(1, 1, 0, d[0]), d[1]);
            due("by " + d[0] + " of 20", x.dusk(1, 20, 0, d[0]), 20 * d[1]);
        }
        due("10000", x.dusk(1, 1, 0, 10000), -1);
        due("below 0", x.dusk(1, 1, 0, -1), -1);
        x.set(0, 2);
        due("there at once by 0", x.dusk(1, 1, 0, 0), 40);
        AskNext lost = keeping(Checks.with("r01 10;w60 1 0;w40 7 0;"), RULE, 0);
        due("lost is never there", lost.dusk(1, 1, 0, 9999), 60);
        AskNext late = keeping(Checks.with(SWAYING, MISLEADING), THINK, 0);
        int by = 0;
        int behind = 0;
        for (int z = 0; z < 60; z++) {
            int minutes = late.by(1, 0, z, 0);
            int others = late.by(1, 1, z, 0);
            by += minutes <= 9999 ? 1 : 0;
            behind += minutes > 9999 && minutes != LOST ? 1 : 0;
            int told = (minutes <= 9999 ? 50 : 0) + (others <= 9999 ? 50 : 0);
            due("there by 9999, seed " + z, late.dusk(1, 1, z, 9999), told);
        }
        checks.isTrue("some are there later", by > 0 && behind > 0);
    }

    private int best(AskNext x, int figure, int... kinds) {
        x.row(6, 0, kinds.length);
        for (int i = 0; i < kinds.length; i++) {
            x.put(6, i, kinds[i]);
        }
        return x.best(6, figure, 1, 7);
    }

    // "BEST RULE of a ROW of KINDS with a FIGURE: the least MEAN; of several the first"
    private void bestOfSeveral() {
        AskNext x = Checks.with("r01 10;r02 10;w50 1 0;w50 2 0;s0 0;m00 100;a1;");
        // MEANS: RULE and TOLD 2000, FIRST, THINK and MOST once 1100
        due("the least", best(x, 1, RULE, FIRST), 1);
        due("the least", best(x, 1, FIRST, RULE), 0);
        due("of several the first", best(x, 1, RULE, FIRST, MOST, THINK), 1);
        due("of several the first", best(x, 1, TOLD, RULE, THINK, MOST), 2);
        due("all alike", best(x, 1, FIRST, FIRST), 0);
        due("with the figure: most asks twice", best(x, 2, MOST, RULE, FIRST), 2);
        due("with the figure: most asks not", best(x, 0, RULE, MOST), 0);
        x.set(1, 10);
        due("as dear as not asking", best(x, 1, RULE, FIRST), 0);
        x.set(1, 9);
        due("by a minute", best(x, 1, RULE, FIRST), 1);
    }

    // "not 1 .. 6 KINDS"
    private void bestOfARow() {
        AskNext x = Checks.with("r01 10;w100 1 0;");
        due("none", best(x, 0), -13);
        for (int n = 1; n <= 6; n++) {
            due("so many: " + n, best(x, 0, new int[n]), 0);
        }
        due("seven", best(x, 0, new int[7]), -13);
        due("many", best(x, 0, new int[100]), -13);
        for (int kind = -1; kind <= 6; kind++) {
            due("kind " + kind, best(x, 0, kind), kind < 0 || kind > 5 ? -13 : 0);
            due("kind " + kind, best(x, 0, 0, 0, 0, 0, 0, kind), kind < 0 || kind > 5 ? -13 : 0);
        }
        due("kind 256 is 0 by its lowest bits", best(x, 0, 256), 0);
        due("figure 99", best(x, 99, 0), 0);
        due("figure 100", best(x, 100, 0), -1);
        due("figure 0", best(x, 0, 0), 0);
        due("figure below 0", best(x, -1, 0), -1);
        for (int n = -1; n <= 22; n++) {
            due("n " + n, x.best(6, 0, n, 0), n < 1 || n > 20 ? -1 : 0);
            due("n " + n, x.post(n, 0), n < 1 || n > 20 ? -1 : 0);
        }
    }

    // "POST: .. the one with which MEAN of THINK by n seeds is least; of several the least"
    private void postOfSeveral() {
        due("all alike", Checks.with("r01 10;w100 1 0;").post(1, 0), 0);
        due("only at 7 it helps", Checks.with("r71 10;r72 10;w50 1 0;w50 2 0;b7;").post(1, 0), 7);
        due("at 4 and at 6 alike", Checks.with("r64 1;r41 10;r42 10;w50 1 0;w50 2 0;b6;").post(1, 0), 4);
        due("at 6 earlier", Checks.with("r64 1;r41 10;r62 10;w50 1 0;w50 2 0;b6;").post(1, 0), 6);
        due("there at once, but in world 1", Checks.with("r21 10;r23 10;w60 2 0;w40 3 0;b2;").post(20, 0), 0);
    }

    // "each ANSWER is the true WORLD (z goes on all the same; hundredths 100 of it, if it is so)"
    private void postIsThatWorld() {
        AskNext x = Checks.with("r31 10;r32 10;w50 1 0;w50 2 0;s3 0;s0 0;m30 60;m31 40;b3;");
        due("in place of who is met", x.post(20, 5), 3);
        due("on both sides of the greatest", x.post(20, MAX), 3);
        AskNext wins = Checks.with("r31 10;r32 10;r34 1;w50 1 0;w50 2 0;s0 0;m30 98;b3;");
        int known = seedOf(0, 97);
        due("who knows is met in any case", wins.post(1, known), 0);
        due("nobody is met without a post", wins.post(1, seedOf(0, 98)), 3);
    }

    // "THE IMAGE: all that there is, but SHELVES (and THE IMAGE); RESTORED all is as it was then"
    private void imageOfAll() {
        AskNext x = new AskNext();
        due("none yet", x.restore(), -3);
        due("of a new one", x.image(), 0);
        due("there is one", x.restore(), 0);
        Checks.tell(x, "r01 5;w99 1 0;s0 0;m00 50;b1;a7;");
        due("of one that isn't ready", x.image(), 1);
        String seen = Seen.of(x);
        Checks.tell(x, "r12 5;w1 2 1;s1 0;m00 40;m01 60;b2;a8;");
        due("ready now", x.answer(0, 0), 0);
        x.keep(5, 1, MOST, 4);
        due("the first again", x.restore(), 1);
        due("not ready again", x.anew(), -3);
        due("shelves stay", x.weight(5), 8);
        x.keep(5, 0, 0, 0);
        x.row(0, 0, 0);
        Checks.tell(x, "b1;");
        x.restore();
        Checks.text(x, 0, "r01 5;w99 1 0;s0 0;m00 50;b1;a7;");
        checks.isTrue("all is as it was", seen.equals(Seen.of(x)));
        Checks.tell(x, "w1 2 1;");
        x.answer(0, 0);
        due("a new image takes its place", x.image(), 2);
        x.anew();
        due("restored", x.restore(), 2);
        due("the thought, too", x.think(0, 0), 1);
        due("the thought, too", x.think(1, 0), 0);
        x.anew();
        due("restored again", x.restore(), 2);
        due("the thought, too", x.think(0, 0), 1);
    }

    // "each with a FIGURE (0 .. 99)"
    private void figuresAndKinds() {
        AskNext x = new AskNext();
        for (int kind = -1; kind <= 6; kind++) {
            for (int figure : new int[] {-1, 0, 99, 100, MIN, MAX}) {
                boolean is = kind >= 0 && kind <= 5 && figure >= 0 && figure <= 99;
                due("keep " + kind + " " + figure, x.keep(2, 1, kind, figure), is ? 0 : -1);
            }
        }
        for (int d = -1; d <= 8; d++) {
            due("shelf " + d, x.keep(d, 1, 0, 0), d >= 0 && d <= 7 ? 0 : -1);
            due("shelf " + d, x.row(d, 0, 0), d >= 0 && d <= 7 ? 0 : -1);
        }
        for (int what = -1; what <= 2; what++) {
            due("what " + what, x.keep(2, what, 0, 0), what == 0 || what == 1 ? 0 : -1);
        }
        due("nothing, whatever the others are", x.keep(2, 0, MIN, MAX), 0);
        due("nothing is held", x.weight(2), -11);
    }

    // "WEIGHT: RULE 3; FIRST a RULE's and 1; .."
    private void weights() {
        AskNext x = new AskNext();
        for (int figure : new int[] {0, 1, 50, 99}) {
            int[] due = {3, 4, 4 + figure, 6, 6 + figure, 3 + 10 * figure};
            for (int kind = RULE; kind <= TOLD; kind++) {
                x.keep(0, 1, kind, figure);
                due("weight of kind " + kind, x.weight(0), due[kind]);
            }
        }
    }

    // "its FIGURE; of MOST 100 more; of BACK ones 200 plus their WEIGHT ..; -15: TOLD ones, and any with FIGURE 0"
    private void failures() {
        AskNext x = new AskNext();
        for (int figure : new int[] {0, 1, 2, 98, 99}) {
            int[] due = {figure, figure, figure + 100, figure, 206 + figure, -15};
            for (int kind = RULE; kind <= TOLD; kind++) {
                x.keep(0, 1, kind, figure);
                due("failure of kind " + kind, x.toss(0), figure == 0 ? -15 : due[kind]);
                due("it stays", x.toss(0), figure == 0 ? -15 : due[kind]);
            }
        }
    }

    // "An object is used for at most 512 calls after it has been made"
    private void fiveHundredAndTwelveCalls() {
        AskNext x = new AskNext();
        String text = "r01 10;r02 10;w50 1 0;w50 2 0;s0 0;m00 100;a30;";
        x.row(0, 0, text.length());
        for (int i = 0; i < text.length(); i++) {
            x.put(0, i, text.charAt(i));
        }
        x.land(0);
        x.keep(1, 1, MOST, 99);
        int calls = 1 + text.length() + 2;
        for (; calls < 508; calls++) {
            due("mean", x.mean(1, 20, calls), 20 * 100 * (10 + 99 * 30));
        }
        due("the fourth last", x.post(20, 0), 0);
        due("the third last", x.worth(0), 100 * (2000 - 1000) - 100 * 30 * 100);
        due("the last but one", x.toss(1), 199);
        due("the last", x.by(1, 1, MAX, 1), 99);
    }
}
