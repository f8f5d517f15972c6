/** Which refusal comes first where several hold; and that a refused call changes nothing. */
public final class RefusalTest {
    private static final long LONGS = -4000000000000000000L;
    private static final int MIN = Integer.MIN_VALUE;
    private static final int MAX = Integer.MAX_VALUE;

    /** Neither a SHELF nor a CROSSING. */
    private static final int[] OUT_OF_EIGHT = {-1, 8, MIN, MAX};
    /** No WORLD of the three. */
    private static final int[] NO_WORLD = {-1, 3, 5, MIN, MAX};
    private static final int[] NO_ANSWER = {-2, 3, 5, MIN, MAX};
    private static final int[] NO_SEEDS = {0, 21, -1, MIN, MAX};
    private static final int[] NO_FIGURE = {-1, 100, MIN, MAX};

    private static final int TEXT = 0;
    private static final int RULE = 1;
    private static final int SHORTS = 2;
    private static final int NOTHING = 3;
    private static final int INTS = 4;
    private static final int NO_KINDS = 5;
    private static final int BACK = 6;
    private static final int EMPTY = 7;

    private interface Call {
        long on(AskNext x);
    }

    private final Checks checks = new Checks();
    private boolean ready = true;
    private String seen = "";
    private String restored = "";

    public static void main(String[] args) {
        RefusalTest test = new RefusalTest();
        for (boolean ready : new boolean[] {true, false}) {
            test.begin(ready);
            test.lands();
            test.ways();
            test.thoughts();
            test.walks();
            test.rules();
            test.bestAndPost();
            test.others();
            test.keepAndRow();
            test.putAndElement();
            test.copy();
            test.weightAndToss();
            test.stays();
        }
        test.checks.end("RefusalTest");
    }

    private void begin(boolean ready) {
        this.ready = ready;
        AskNext x = made();
        seen = Seen.of(x);
        x.restore();
        restored = Seen.of(x);
        checks.isTrue("the image is another", !seen.equals(restored));
    }

    /** Something of all that there is; its image is of another state. */
    private AskNext made() {
        AskNext x = Checks.with("r01 10;r12 5;r03 7;r31 1;w50 2 0;w30 3 1;s0 0;s1 1;s3 0;m00 50;m01 30;b1;a3;");
        if (ready) {
            Checks.tell(x, "w20 4 2;m11 5;");
            x.answer(0, 1);
            x.image();
            x.answer(0, -1);
            x.found(2, true);
        } else {
            Checks.tell(x, "w19 4 2;m11 5;");
            x.image();
        }
        x.set(0, 0);
        x.set(1, 4);
        x.row(TEXT, 0, 3);
        x.put(TEXT, 1, 1);
        x.keep(RULE, 1, 2, 5);
        x.row(SHORTS, 1, 2);
        x.put(SHORTS, 1, 300);
        x.keep(NOTHING, 0, 0, 0);
        x.row(INTS, 2, 2);
        x.put(INTS, 0, MAX);
        x.row(NO_KINDS, 0, 1);
        x.put(NO_KINDS, 0, 6);
        x.keep(BACK, 1, 4, 70);
        x.row(EMPTY, 0, 0);
        return x;
    }

    private void due(String what, Call call, long due) {
        AskNext x = made();
        checks.due(what, call.on(x), due);
        checks.isTrue(what + " changes nothing", Seen.of(x).equals(seen));
        x.restore();
        checks.isTrue(what + " changes nothing of the image", Seen.of(x).equals(restored));
    }

    /** What is due of a call that has nothing against it but that the LAND isn't READY. */
    private long unready(long otherwise) {
        return ready ? otherwise : -3;
    }

    // Promises 2 to 6
    private void lands() {
        for (int out : OUT_OF_EIGHT) {
            due("land", x -> x.land(out), -1);
            due("road, what", x -> x.road(0, out), -1);
            due("world, what", x -> x.world(0, out), -1);
            due("met, crossing", x -> x.met(out, 0), -1);
            due("met, sort", x -> x.met(0, out), -1);
            due("start", x -> x.set(0, out), -1);
            due("neither start nor cost", x -> x.set(out, 0), -1);
        }
        due("land of nothing", x -> x.land(NOTHING), -11);
        due("land of a rule", x -> x.land(RULE), -12);
        due("land of shorts", x -> x.land(SHORTS), -12);
        due("land of ints", x -> x.land(INTS), -12);
        due("a fault", x -> x.land(TEXT), -1000);
        due("a fault, as it ends too early", x -> x.land(EMPTY), -1000);
        for (int out : new int[] {-1, 4, 16, MIN, MAX}) {
            due("road", x -> x.road(out, 0), -1);
        }
        due("road, what 3", x -> x.road(3, 3), -1);
        due("world, what 3", x -> x.world(2, 3), -1);
        for (int out : NO_WORLD) {
            due("world", x -> x.world(out, 0), -1);
        }
        due("met, the fourth sort", x -> x.met(0, 3), -1);
        due("met, the seventh sort", x -> x.met(0, 6), -1);
        due("what 2 of set", x -> x.set(2, 0), -1);
        for (int out : new int[] {-1, 31, MIN, MAX}) {
            due("cost", x -> x.set(1, out), -1);
        }
    }

    // Promises 7 to 10
    private void ways() {
        for (int out : OUT_OF_EIGHT) {
            due("way, crossing", x -> x.way(0, out), -1);
            due("next, crossing", x -> x.next(0, out), -1);
            due("says, crossing", x -> x.says(0, out, 0), -1);
            due("chance, crossing", x -> x.chance(out, 0, 0), -1);
        }
        for (int out : NO_WORLD) {
            due("way, world", x -> x.way(out, 0), -1);
            due("next, world", x -> x.next(out, 0), -1);
            due("says, sort", x -> x.says(out, 0, 0), -1);
            due("says, world", x -> x.says(0, 0, out), -1);
            due("chance, world", x -> x.chance(0, 0, out), -1);
        }
        for (int out : NO_ANSWER) {
            due("chance, answer", x -> x.chance(0, out, 0), -1);
        }
        due("next, none", x -> x.next(0, 7), -4);
        due("next, there", x -> x.next(0, 2), -4);
    }

    // Promises 11 to 16
    private void thoughts() {
        if (!ready) {
            due("anew", x -> x.anew(), -3);
        }
        for (int out : OUT_OF_EIGHT) {
            due("answer, crossing", x -> x.answer(out, 0), -1);
            due("same, crossing", x -> x.same(out, 0, 0), -1);
            due("think, part", x -> x.think(0, out), LONGS - 1);
            due("judge", x -> x.judge(out), -1);
        }
        for (int out : NO_ANSWER) {
            due("answer, answer", x -> x.answer(0, out), -1);
            due("same, answer", x -> x.same(0, out, 0), -1);
        }
        for (int out : new int[] {-1, 101, MIN, MAX}) {
            due("same, q", x -> x.same(0, 0, out), -1);
        }
        for (int out : new int[] {-1, 4, 16, MIN, MAX}) {
            due("found", x -> x.found(out, true), -1);
            due("found", x -> x.found(out, false), -1);
        }
        for (int out : NO_WORLD) {
            due("think, world", x -> x.think(out, 0), LONGS - 1);
        }
        due("think, part 2", x -> x.think(0, 2), LONGS - 1);
        due("all would be 0", x -> x.answer(7, 0), -3);
        due("all would be 0", x -> x.same(7, 0, 50), -3);
        due("all would be 0", x -> x.found(3, false), -3);
        due("-1 ahead of that", x -> x.answer(8, 0), -1);
        due("-1 ahead of that", x -> x.same(7, 0, 101), -1);
        due("-1 ahead of that", x -> x.found(4, false), -1);
        due("judge of nothing", x -> x.judge(NOTHING), unready(-11));
        due("judge of a rule", x -> x.judge(RULE), unready(-12));
        if (!ready) {
            due("answer", x -> x.answer(0, 0), -3);
            due("same", x -> x.same(0, 0, 0), -3);
            due("found", x -> x.found(0, true), -3);
            due("think", x -> x.think(0, 0), LONGS - 3);
            due("judge", x -> x.judge(SHORTS), -3);
        }
    }

    // Promises 17 to 19
    private void walks() {
        for (int out : OUT_OF_EIGHT) {
            due("walk, crossing", x -> x.walk(0, out), -1);
            due("worth", x -> x.worth(out), LONGS - 1);
            due("never", x -> x.never(out), -1);
        }
        for (int out : NO_WORLD) {
            due("walk, world", x -> x.walk(out, 0), -1);
        }
        if (!ready) {
            due("walk", x -> x.walk(2, 7), -3);
            due("worth", x -> x.worth(7), LONGS - 3);
            due("never", x -> x.never(0), -3);
        }
    }

    // Promises 20 to 22
    private void rules() {
        for (int shelf : new int[] {RULE, NOTHING, SHORTS}) {
            for (int out : NO_WORLD) {
                due("by, world", x -> x.by(shelf, out, 0, 0), -1);
            }
            for (int out : new int[] {-1, 3, MIN, MAX}) {
                due("by, what", x -> x.by(shelf, 0, 0, out), -1);
            }
            for (int out : NO_SEEDS) {
                due("mean, n", x -> x.mean(shelf, out, 0), -1);
                due("dusk, n", x -> x.dusk(shelf, out, 0, 0), -1);
            }
            for (int out : new int[] {-1, 10000, MIN, MAX}) {
                due("dusk, minute", x -> x.dusk(shelf, 1, 0, out), -1);
            }
        }
        for (int out : OUT_OF_EIGHT) {
            due("by, shelf", x -> x.by(out, 0, 0, 0), -1);
            due("mean, shelf", x -> x.mean(out, 1, 0), -1);
            due("dusk, shelf", x -> x.dusk(out, 1, 0, 0), -1);
        }
        due("by nothing", x -> x.by(NOTHING, 2, MAX, 2), -11);
        due("mean of nothing", x -> x.mean(NOTHING, 20, MAX), -11);
        due("dusk of nothing", x -> x.dusk(NOTHING, 20, MAX, 9999), -11);
        for (int row : new int[] {TEXT, SHORTS, INTS, EMPTY}) {
            due("by a row", x -> x.by(row, 2, MIN, 2), -12);
            due("mean of a row", x -> x.mean(row, 20, MIN), -12);
            due("dusk of a row", x -> x.dusk(row, 20, MIN, 9999), -12);
        }
        if (!ready) {
            due("by", x -> x.by(RULE, 0, 0, 0), -3);
            due("mean", x -> x.mean(RULE, 1, 0), -3);
            due("dusk", x -> x.dusk(BACK, 1, 0, 0), -3);
        }
    }

    // Promises 23, 24
    private void bestAndPost() {
        for (int shelf : new int[] {TEXT, NOTHING, RULE, SHORTS, NO_KINDS}) {
            for (int out : NO_FIGURE) {
                due("best, figure", x -> x.best(shelf, out, 1, 0), -1);
            }
            for (int out : NO_SEEDS) {
                due("best, n", x -> x.best(shelf, 0, out, 0), -1);
            }
        }
        for (int out : OUT_OF_EIGHT) {
            due("best, shelf", x -> x.best(out, 0, 1, 0), -1);
        }
        due("best of nothing", x -> x.best(NOTHING, 99, 20, MAX), -11);
        due("best of a rule", x -> x.best(RULE, 99, 20, MAX), -12);
        due("best of shorts", x -> x.best(SHORTS, 0, 1, 0), -12);
        due("best of ints", x -> x.best(INTS, 0, 1, 0), -12);
        due("best of what is no kind", x -> x.best(NO_KINDS, 0, 1, 0), -13);
        due("best of none", x -> x.best(EMPTY, 0, 1, 0), -13);
        for (int out : NO_SEEDS) {
            due("post, n", x -> x.post(out, 0), -1);
        }
        if (!ready) {
            due("best", x -> x.best(TEXT, 0, 1, 0), -3);
            due("post", x -> x.post(1, 0), -3);
        }
        AskNext x = made();
        x.row(SHORTS, 1, 0);
        checks.due("-12 ahead of -13", x.best(SHORTS, 0, 1, 0), -12);
    }

    // Promises 26, 27
    private void others() {
        checks.due("no image", Checks.with("w100 1 0;").restore(), -3);
        for (int out : new int[] {-1, 6, MIN, MAX}) {
            due("count", x -> x.count(out), -1);
        }
    }

    // Promises 28, 29
    private void keepAndRow() {
        for (int out : OUT_OF_EIGHT) {
            due("keep nothing, shelf", x -> x.keep(out, 0, 0, 0), -1);
            due("keep, shelf", x -> x.keep(out, 1, 0, 0), -1);
            due("row, shelf", x -> x.row(out, 0, 1), -1);
            due("row, -1 ahead of -14", x -> x.row(out, 0, -1), -1);
        }
        for (int shelf = 0; shelf < 8; shelf++) {
            int d = shelf;
            for (int out : new int[] {-1, 2, MIN, MAX}) {
                due("keep, what", x -> x.keep(d, out, 0, 0), -1);
            }
            for (int out : new int[] {-1, 6, MIN, MAX}) {
                due("keep, kind", x -> x.keep(d, 1, out, 0), -1);
            }
            for (int out : NO_FIGURE) {
                due("keep, figure", x -> x.keep(d, 1, 0, out), -1);
            }
            for (int out : new int[] {-1, 3, MIN, MAX}) {
                due("row, sort", x -> x.row(d, out, 0), -1);
                due("row, sort ahead of -14", x -> x.row(d, out, -1), -1);
            }
            due("row of 101", x -> x.row(d, 0, 101), -1);
            due("row of many", x -> x.row(d, 2, MAX), -1);
            due("row below 0", x -> x.row(d, 1, -1), -14);
            due("row far below 0", x -> x.row(d, 2, MIN), -14);
        }
    }

    // Promises 30, 31
    private void putAndElement() {
        for (int out : OUT_OF_EIGHT) {
            due("put, shelf", x -> x.put(out, 0, 1), -1);
            due("put, shelf ahead of place", x -> x.put(out, -1, 1), -1);
            due("element, shelf", x -> Checks.thrownByElement(x, out, 0), 1);
            due("element, shelf ahead of place", x -> Checks.thrownByElement(x, out, -1), 1);
        }
        for (int i : new int[] {0, -1, MIN, MAX}) {
            due("put, nothing", x -> x.put(NOTHING, i, 1), -11);
            due("put, a rule", x -> x.put(RULE, i, 1), -12);
            due("put, no place", x -> x.put(EMPTY, i, 1), -13);
            due("element, nothing", x -> Checks.thrownByElement(x, NOTHING, i), 2);
            due("element, a rule", x -> Checks.thrownByElement(x, RULE, i), 2);
            due("element, no place", x -> Checks.thrownByElement(x, EMPTY, i), 2);
        }
        for (int i : new int[] {-1, 2, MIN, MAX}) {
            due("put, no place", x -> x.put(SHORTS, i, 1), -13);
            due("element, no place", x -> Checks.thrownByElement(x, SHORTS, i), 2);
        }
    }

    // Promise 32
    private void copy() {
        for (int out : OUT_OF_EIGHT) {
            for (int other : new int[] {TEXT, NOTHING, RULE, out}) {
                due("copy, shelf", x -> x.copy(out, 0, other, 0, 1), -1);
                due("copy, shelf", x -> x.copy(other, 0, out, 0, -1), -1);
            }
        }
        for (int other : new int[] {NOTHING, TEXT, RULE, SHORTS}) {
            due("copy, nothing", x -> x.copy(NOTHING, 0, other, 0, 1), -11);
            due("copy, nothing", x -> x.copy(other, -1, NOTHING, 0, -1), -11);
        }
        for (int[] pair : new int[][] {{RULE, RULE}, {RULE, TEXT}, {TEXT, BACK}, {TEXT, SHORTS}, {SHORTS, INTS},
            {INTS, TEXT}}) {
            due("copy, no rows of one sort", x -> x.copy(pair[0], 0, pair[1], 0, 1), -12);
            due("copy, -12 ahead of -13", x -> x.copy(pair[0], -1, pair[1], MAX, -1), -12);
        }
        for (int out : new int[] {-1, 4, MIN, MAX}) {
            due("copy, from", x -> x.copy(TEXT, out, NO_KINDS, 0, 0), -13);
            due("copy, to", x -> x.copy(NO_KINDS, 0, TEXT, out, 0), -13);
            due("copy, n", x -> x.copy(TEXT, 0, TEXT, 0, out), -13);
        }
        due("copy, too many there", x -> x.copy(TEXT, 0, NO_KINDS, 0, 2), -13);
        due("copy, too many here", x -> x.copy(NO_KINDS, 0, TEXT, 0, 2), -13);
        due("copy, one behind the end", x -> x.copy(TEXT, 1, TEXT, 0, 3), -13);
        due("copy, one behind the end", x -> x.copy(TEXT, 0, TEXT, 1, 3), -13);
        due("copy, a wrap-around", x -> x.copy(TEXT, 2, TEXT, 0, MAX), -13);
        due("copy, a wrap-around", x -> x.copy(TEXT, 0, TEXT, MAX, MAX), -13);
        due("copy, none", x -> x.copy(TEXT, 3, NO_KINDS, 1, 0), 0);
        due("copy, none of none", x -> x.copy(EMPTY, 0, EMPTY, 0, 0), 0);
        due("copy, onto its place", x -> x.copy(TEXT, 0, TEXT, 0, 3), 3);
    }

    // Promises 33, 34
    private void weightAndToss() {
        for (int out : OUT_OF_EIGHT) {
            due("weight, shelf", x -> x.weight(out), -1);
            due("toss, shelf", x -> x.toss(out), -1);
        }
        due("weight of nothing", x -> x.weight(NOTHING), -11);
        due("toss of nothing", x -> x.toss(NOTHING), -11);
        for (int row : new int[] {TEXT, SHORTS, INTS, EMPTY}) {
            due("weight of a row", x -> x.weight(row), -12);
            due("toss of a row", x -> x.toss(row), -12);
        }
    }

    /** Answered calls that look, and change nothing: what is on SHELVES and the THOUGHT stay, too. */
    private void stays() {
        if (!ready) {
            return;
        }
        due("judge", x -> x.judge(SHORTS), 0);
        due("walk", x -> x.walk(2, 0), 99999);
        due("never", x -> x.never(7), 1);
        due("think", x -> x.think(2, 0), 2);
        due("by", x -> x.by(RULE, 0, 7, 1), 5);
        due("mean", x -> Math.min(0, x.mean(BACK, 20, 7)), 0);
        due("dusk", x -> x.dusk(BACK, 3, 7, 0), 0);
        due("best", x -> x.best(TEXT, 9, 1, 7), 0);
        due("post", x -> Math.min(0, x.post(20, 7)), 0);
        due("weight", x -> x.weight(RULE), 9);
        due("toss", x -> x.toss(BACK), 276);
        due("chance", x -> x.chance(7, -1, 2), 100);
        due("set to what it is", x -> x.set(0, 0), 0);
        due("put what it is", x -> x.put(TEXT, 1, 257), 0);
        due("keep nothing where nothing is", x -> x.keep(NOTHING, 0, 7, 7), 0);
    }
}
