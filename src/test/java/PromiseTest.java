/** For each promise: ordinary inputs, the edges that the document names, wrong inputs. */
public final class PromiseTest {
    private static final long LONGS = -4000000000000000000L;
    private static final int MIN = Integer.MIN_VALUE;
    private static final int MAX = Integer.MAX_VALUE;

    /** Two worlds: goal 2, all open; goal 3, road 0 shut. */
    private static final String LAND = "r01 10;r12 5;r03 7;r31 1;w60 2 0;w40 3 1;s0 0;s1 1;m00 50;m01 30;";
    /** Goals on both sides of 0, and one who knows at 0: asking is worth something. */
    private static final String FORK = "r01 10;r02 10;w50 1 0;w50 2 0;s0 0;m00 100;";
    /** The same with half of them who know, and three in ten who think they know. */
    private static final String DOUBT = "r01 10;r02 10;w60 1 0;w40 2 0;s0 0;s1 1;m00 50;m01 30;";
    /** The goal of world 1 can't be reached. */
    private static final String ISLAND = "r01 10;w60 1 0;w40 3 0;";

    private final Checks checks = new Checks();

    public static void main(String[] args) {
        PromiseTest test = new PromiseTest();
        test.newObject();
        test.landInForm();
        test.landAsTold();
        test.landComes();
        test.roadWorldMet();
        test.set();
        test.wayNext();
        test.says();
        test.chance();
        test.notReady();
        test.anew();
        test.answer();
        test.heavyThoughts();
        test.found();
        test.same();
        test.think();
        test.judge();
        test.walk();
        test.worth();
        test.never();
        test.byPlain();
        test.byFirstAndMost();
        test.byThinkAndBack();
        test.lastStep();
        test.byTold();
        test.byRefusals();
        test.mean();
        test.dusk();
        test.best();
        test.post();
        test.image();
        test.count();
        test.keep();
        test.row();
        test.put();
        test.element();
        test.copy();
        test.weight();
        test.toss();
        test.checks.end("PromiseTest");
    }

    private void due(String what, long got, long want) {
        checks.due(what, got, want);
    }

    private void faults(String[] before, String text, int answer) {
        AskNext x = Checks.with(before);
        int roads = x.count(0);
        int worlds = x.count(1);
        int sorts = x.count(2);
        due("land " + text, Checks.tell(x, text), answer);
        if (answer < 0) {
            due("roads after " + text, x.count(0), roads);
            due("worlds after " + text, x.count(1), worlds);
            due("sorts after " + text, x.count(2), sorts);
        }
    }

    private void faults(String text, int answer) {
        faults(new String[0], text, answer);
    }

    // Promise 1
    private void newObject() {
        AskNext x = new AskNext();
        for (int what = 0; what <= 5; what++) {
            due("count of a new one " + what, x.count(what), 0);
        }
        for (int d = 0; d < 8; d++) {
            due("a new shelf", x.weight(d), -11);
        }
        due("asking costs 2", x.set(1, 2), 2);
        due("start is 0", x.set(0, 0), 0);
        due("no image", x.restore(), -3);
        due("no road", x.road(0, 0), -1);
        due("no world", x.world(0, 0), -1);
        due("no sort", x.met(0, 0), -1);
    }

    // Promise 2
    private void landInForm() {
        faults("", -1000);
        faults("x", -1000);
        faults(";", -1000);
        faults("r", -1001);
        faults("r0", -1002);
        faults("r01", -1003);
        faults("r01 ", -1004);
        faults("r01 5", -1005);
        faults("r01 5;", 1);
        faults("r01 5;;", -1006);
        faults("r01 5; ", -1006);
        faults("r01 5;r", -1007);
        faults("r01  5;", -1004);
        faults("r015;", -1003);
        faults("r01 -5;", -1004);
        faults("r01 05;", -1005);
        faults("r01 00;", -1005);
        faults("r01 99999;", -2000);
        faults("r01 999999;", -1009);
        faults("w;", -1001);
        faults("w50;", -1003);
        faults("w50 1;", -1005);
        faults("w50 12 0;", -1005);
        faults("w50 1 0;", 1);
        faults("w50 1 0 ;", -1007);
        faults("w100000 1 0;", -1006);
        faults("s10 5;", -1002);
        faults("s0;", -1002);
        faults("m0 5;", -1002);
        faults("m001 5;", -1003);
        faults("b10;", -1002);
        faults("b;", -1001);
        faults("b7;", 1);
        faults("a;", -1001);
        faults("a0;", 1);
        faults("a00;", -1002);
        faults("a01;", -1002);
        faults("A1;", -1000);
        faults("b9;x", -1003);
        faults("r00 5;b1", -1008);
        faults("b\u0080;", -1001);
        AskNext x = new AskNext();
        due("no shelf", x.land(-1), -1);
        due("no shelf", x.land(8), -1);
        due("no shelf", x.land(MIN), -1);
        due("nothing there", x.land(0), -11);
        x.keep(0, 1, 0, 0);
        due("a rule", x.land(0), -12);
        x.row(0, 1, 3);
        due("shorts", x.land(0), -12);
        x.row(0, 2, 3);
        due("ints", x.land(0), -12);
        x.row(0, 0, 3);
        due("zeros", x.land(0), -1000);
    }

    private void landAsTold() {
        faults("r01 0;", -2000);
        faults("r01 60;", 1);
        faults("r01 61;", -2000);
        faults("r08 5;", -2000);
        faults("r80 5;", -2000);
        faults("r77 5;", -2000);
        faults("w0 1 0;", -2000);
        faults("w100 7 65535;", 1);
        faults("w101 1 0;", -2000);
        faults("w1 8 0;", -2000);
        faults("w1 7 65536;", -2000);
        faults("w99 0 0;w1 0 0;", 2);
        faults("w99 0 0;w2 0 0;", -2008);
        faults("s4 99;", 1);
        faults("s5 0;", -2000);
        faults("s0 100;", -2000);
        faults("m00 5;", -2000);
        faults("m00 5;s0 0;", -2000);
        faults("s0 0;m00 5;", 2);
        faults("s0 0;m80 5;", -2005);
        faults("s0 0;m01 5;", -2005);
        faults("s0 0;m00 100;", 2);
        faults("s0 0;m00 101;", -2005);
        faults("s0 0;s0 0;m00 60;m01 40;", 4);
        faults("s0 0;s0 0;m00 60;m01 41;", -2017);
        faults("s0 0;s0 0;m00 60;m01 40;m00 60;m00 30;m01 70;", 7);
        faults("s0 0;s0 0;m00 60;m11 100;", 4);
        faults("b8;", -2000);
        faults("a30;", 1);
        faults("a31;", -2000);
        faults("b0;a31;b9;", -2003);
        String[] full = {"r01 1;r01 1;r01 1;r01 1;r01 1;r01 1;r01 1;r01 1;", "r01 1;r01 1;r01 1;r01 1;r01 1;r01 1;r01 1;",
            "w1 0 0;w1 0 0;w1 0 0;w1 0 0;", "s0 0;s0 0;s0 0;s0 0;s0 0;"};
        faults(full, "r12 1;", 1);
        faults(full, "r12 1;r12 1;", -2006);
        faults(full, "w1 0 0;", 1);
        faults(full, "w1 0 0;w1 0 0;", -2007);
        faults(full, "s0 0;m05 1;", 2);
        faults(full, "s0 0;s0 0;", -2005);
    }

    private void landComes() {
        AskNext x = Checks.with(LAND);
        due("think", x.answer(0, 1), 1);
        due("a fault", Checks.tell(x, "b1;b9;"), -2003);
        due("with a fault nothing comes", x.count(4), 0);
        due("and the thought stays", x.think(0, 1), 25);
        due("more of it", Checks.tell(x, "r45 60;b3;a7;m00 10;"), 4);
        due("a road more", x.count(0), 5);
        due("start", x.count(4), 3);
        due("cost", x.set(1, 7), 7);
        due("met told again", x.met(0, 0), 10);
        due("the thought is chances", x.think(0, 1), 5);
        due("the text stays", x.element(0, 0), 'r');
        due("read again", Checks.tell(x, "w1 0 0;"), -2000);
        AskNext signs = new AskNext();
        signs.row(3, 0, 3);
        signs.put(3, 0, 'b' + 256);
        signs.put(3, 1, '5');
        signs.put(3, 2, ';');
        due("lowest bits", signs.land(3), 1);
        due("start 5", signs.count(4), 5);
    }

    // Promises 3, 4, 5
    private void roadWorldMet() {
        AskNext x = Checks.with(LAND, "r75 60;");
        int[][] roads = {{0, 1, 10}, {1, 2, 5}, {0, 3, 7}, {3, 1, 1}, {7, 5, 60}};
        for (int r = 0; r < roads.length; r++) {
            for (int what = 0; what < 3; what++) {
                due("road " + r + " " + what, x.road(r, what), roads[r][what]);
            }
        }
        int[][] worlds = {{60, 2, 0}, {40, 3, 1}};
        for (int w = 0; w < 2; w++) {
            for (int what = 0; what < 3; what++) {
                due("world " + w + " " + what, x.world(w, what), worlds[w][what]);
            }
        }
        for (int wrong : new int[] {-1, 5, MIN, MAX}) {
            due("road", x.road(wrong, 0), -1);
            due("world", x.world(wrong, 0), -1);
            due("what of a road", x.road(0, wrong), -1);
            due("what of a world", x.world(0, wrong), -1);
            due("sort", x.met(0, wrong), -1);
        }
        due("no third world", x.world(2, 0), -1);
        due("what 3", x.road(0, 3), -1);
        due("what 3", x.world(0, 3), -1);
        due("met", x.met(0, 0), 50);
        due("met", x.met(0, 1), 30);
        due("met", x.met(7, 1), 0);
        due("no such sort", x.met(0, 2), -1);
        due("no such crossing", x.met(8, 0), -1);
        due("no such crossing", x.met(-1, 0), -1);
    }

    // Promise 6
    private void set() {
        AskNext x = Checks.with(LAND);
        x.answer(0, 1);
        due("start", x.set(0, 7), 0);
        due("start", x.set(0, 3), 7);
        due("cost", x.set(1, 30), 2);
        due("cost", x.set(1, 0), 30);
        due("cost", x.set(1, 0), 0);
        for (int wrong : new int[] {-1, MIN, MAX, 31}) {
            due("start", x.set(0, wrong), -1);
            due("cost", x.set(1, wrong), -1);
        }
        due("start 8", x.set(0, 8), -1);
        due("what", x.set(2, 0), -1);
        due("what", x.set(-1, 0), -1);
        due("start as it was", x.count(4), 3);
        due("the thought stays", x.think(0, 1), 25);
    }

    // Promises 7, 8
    private void wayNext() {
        AskNext x = Checks.with(LAND);
        due("way", x.way(0, 0), 13);
        due("way", x.way(0, 1), 5);
        due("way", x.way(0, 2), 0);
        due("way", x.way(0, 3), 6);
        due("way", x.way(0, 4), 99999);
        due("way", x.way(1, 2), 6);
        due("next", x.next(0, 0), 2);
        due("next", x.next(0, 1), 1);
        due("next", x.next(0, 2), -4);
        due("next", x.next(0, 4), -4);
        due("next", x.next(0, 3), 3);
        AskNext line = Checks.with("r01 60;r12 60;r23 60;r34 60;r45 60;r56 60;r67 60;w50 7 0;w50 0 0;");
        due("all seven roads", line.way(0, 0), 420);
        due("all seven roads back", line.way(1, 7), 420);
        due("next back", line.next(1, 7), 6);
        AskNext twins = Checks.with("r01 2;r20 3;r01 2;r10 2;r12 1;w9 2 0;w9 2 1;w9 2 7;w9 2 1026;");
        due("the least of several", twins.next(0, 0), 0);
        due("way", twins.way(0, 0), 3);
        due("0 is shut", twins.next(1, 0), 1);
        due("0, 1 and 2 are shut", twins.next(2, 0), 3);
        due("1 is shut, and one that isn't there", twins.next(3, 0), 0);
        for (int wrong : new int[] {-1, 8, MIN, MAX}) {
            due("way", x.way(0, wrong), -1);
            due("way", x.way(wrong, 0), -1);
            due("next", x.next(0, wrong), -1);
            due("next", x.next(wrong, 0), -1);
        }
        due("way", x.way(2, 0), -1);
        due("next", x.next(2, 0), -1);
    }

    // Promise 9
    private void says() {
        AskNext x = Checks.with("r01 5;r02 5;r03 4;w20 1 0;w20 2 0;w20 3 4;", "s0 9;s1 1;s1 3;s2 0;s3 0;s4 0;");
        int[][] said = {{0, 1, 2}, {1, 1, 1}, {2, 2, 2}, {0, 0, 0}, {1, 2, 0}, {2, 0, 1}};
        for (int s = 0; s < 6; s++) {
            for (int w = 0; w < 3; w++) {
                due("says " + s + " " + w, x.says(s, 0, w), said[s][w]);
            }
        }
        due("pleases at a goal", x.says(3, 2, 0), 1);
        due("pleases where there is no way", x.says(3, 7, 2), 0);
        AskNext one = Checks.with("w100 1 0;s3 0;s4 0;s1 5;");
        for (int s = 0; s < 3; s++) {
            due("of one world", one.says(s, 0, 0), 0);
        }
        for (int wrong : new int[] {-1, 8, MIN, MAX}) {
            due("says", x.says(wrong, 0, 0), -1);
            due("says", x.says(0, wrong, 0), -1);
            due("says", x.says(0, 0, wrong), -1);
        }
        due("says", x.says(6, 0, 0), -1);
        due("says", x.says(0, 0, 3), -1);
        due("says", new AskNext().says(0, 0, 0), -1);
    }

    // Promise 10
    private void chance() {
        AskNext x = Checks.with(LAND);
        int[][] due = {{20, 20}, {50, 0}, {30, 80}};
        for (int a = -1; a < 2; a++) {
            for (int w = 0; w < 2; w++) {
                due("chance " + a + " " + w, x.chance(0, a, w), due[a + 1][w]);
            }
        }
        due("nobody", x.chance(7, -1, 0), 100);
        due("nobody", x.chance(7, 0, 0), 0);
        for (int wrong : new int[] {-2, 8, MIN, MAX}) {
            due("chance", x.chance(wrong, 0, 0), -1);
            due("chance", x.chance(0, wrong, 0), -1);
            due("chance", x.chance(0, 0, wrong), -1);
        }
        due("chance", x.chance(-1, 0, 0), -1);
        due("chance", x.chance(0, 2, 0), -1);
        due("chance", x.chance(0, 0, -1), -1);
        due("chance", x.chance(0, 0, 2), -1);
        due("no worlds", new AskNext().chance(0, -1, 0), -1);
    }

    private void notReady() {
        AskNext x = Checks.with("r01 5;w60 1 0;w39 2 0;s0 0;");
        x.keep(1, 1, 0, 0);
        x.row(2, 0, 1);
        due("way needs no ready land", x.way(0, 0), 5);
        due("anew", x.anew(), -3);
        due("answer", x.answer(0, -1), -3);
        due("found", x.found(0, true), -3);
        due("same", x.same(0, -1, 0), -3);
        due("think", x.think(0, 0), LONGS - 3);
        due("judge", x.judge(2), -3);
        due("judge of nothing", x.judge(5), -3);
        due("walk", x.walk(0, 0), -3);
        due("worth", x.worth(0), LONGS - 3);
        due("never", x.never(0), -3);
        due("by", x.by(1, 0, 0, 0), -3);
        due("mean", x.mean(1, 1, 0), -3);
        due("dusk", x.dusk(1, 1, 0, 0), -3);
        due("best", x.best(2, 0, 1, 0), -3);
        due("post", x.post(1, 0), -3);
        due("then it is ready", Checks.tell(x, "w1 3 0;"), 1);
        due("anew", x.anew(), 0);
        due("chances", x.think(1, 0), 39);
        due("chances", x.think(1, 1), 100);
    }

    // Promise 11
    private void anew() {
        AskNext x = Checks.with(LAND);
        due("answer", x.answer(0, 1), 1);
        due("anew", x.anew(), 0);
        due("think", x.think(0, 0), 3);
        due("as they are", x.worth(0), -20000);
        due("not ready", new AskNext().anew(), -3);
        due("of several the least", Checks.with("w20 0 0;w40 1 0;w40 2 0;").anew(), 1);
    }

    // Promise 12
    private void answer() {
        AskNext x = Checks.with(LAND);
        due("nobody", x.answer(0, -1), 0);
        due("3 of 5", x.think(0, 0), 3);
        due("divided by what divides all", x.worth(0), -1000);
        due("answer", x.answer(0, 1), 1);
        due("9 of 25", x.think(0, 0), 9);
        due("9 of 25", x.think(0, 1), 25);
        due("16 of 25", x.think(1, 0), 16);
        due("once more", x.answer(0, 1), 1);
        due("27 of 155", x.think(0, 0), 27);
        due("27 of 155", x.think(0, 1), 155);
        due("only who knows says 0", x.answer(0, 0), 0);
        due("sure", x.think(0, 1), 1);
        due("0 of 1", x.think(1, 0), 0);
        due("0 of 1", x.think(1, 1), 1);
        due("nobody says so there", x.answer(5, 1), -3);
        due("stays", x.think(0, 0), 1);
        AskNext full = Checks.with(FORK);
        due("nobody can't be", full.answer(0, -1), -3);
        due("stays", full.worth(0), 80000);
        for (int wrong : new int[] {-2, 8, MIN, MAX}) {
            due("answer", x.answer(wrong, 0), -1);
            due("answer", x.answer(0, wrong), -1);
        }
        due("answer", x.answer(-1, 0), -1);
        due("answer", x.answer(0, 2), -1);
        due("-1 ahead of -3", new AskNext().answer(0, 0), -1);
        due("-3 for nobody", new AskNext().answer(0, -1), -3);
    }

    private void heavyThoughts() {
        AskNext x = Checks.with("w50 1 0;w50 2 0;s0 0;s1 0;m00 1;m01 98;");
        for (int i = 0; i < 6; i++) {
            due("answer", x.answer(0, 0), 0);
        }
        // 99 and 98 to the sixth, halved four times
        due("halved", x.think(0, 0), 58842509337L);
        due("halved", x.think(0, 1), 58842509337L + 55365148804L);
        AskNext one = Checks.with("w50 1 0;w50 2 0;s0 0;s1 0;m00 99;m01 1;");
        for (int i = 0; i < 5; i++) {
            one.answer(0, 0);
        }
        due("ten thousand millions to 1", one.think(0, 1), 10000000001L);
        one.answer(0, 0);
        due("1 at least", one.think(1, 0), 1);
        due("halved four times", one.think(1, 1), 62500000001L);
        for (int i = 0; i < 30; i++) {
            one.answer(0, 0);
        }
        due("1 at least", one.think(1, 0), 1);
        AskNext two = Checks.with("w50 1 0;w50 2 0;s0 0;s1 0;m00 96;m01 1;m10 97;m11 2;");
        for (int i = 0; i < 5; i++) {
            two.answer(0, 0);
        }
        two.answer(1, 0);
        // 99 times 97 to the fifth, and 2: halved four times
        due("2 becomes 1", two.think(1, 0), 1);
        due("halved four times", two.think(1, 1), 99L * 8587340257L / 16 + 1);
        AskNext edge = Checks.with("w50 1 0;w50 2 0;s0 0;s1 0;m00 90;m01 10;m10 99;m11 1;");
        for (int i = 0; i < 5; i++) {
            edge.answer(1, 0);
        }
        due("above", edge.answer(0, 0), 0);
        due("100000000000 isn't above itself", edge.think(1, 1), 100000000001L);
    }

    // Promise 13
    private void found() {
        AskNext x = Checks.with(LAND);
        due("open in both", x.found(1, true), 0);
        due("divided", x.worth(0), -1000);
        due("shut in none", x.found(1, false), -3);
        due("stays", x.think(0, 1), 5);
        due("shut", x.found(0, false), 1);
        due("sure", x.think(1, 1), 1);
        due("open can't be", x.found(0, true), -3);
        x.anew();
        due("open", x.found(0, true), 0);
        due("sure", x.think(1, 0), 0);
        for (int wrong : new int[] {-1, 4, 16, MIN, MAX}) {
            due("found", x.found(wrong, true), -1);
        }
        due("found", new AskNext().found(0, true), -1);
        AskNext last = Checks.with("w30 1 65535;w70 2 0;", "r01 1;r01 1;r01 1;r01 1;r01 1;r01 1;r01 1;r01 1;",
                "r01 1;r01 1;r01 1;r01 1;r01 1;r01 1;r01 1;r01 1;");
        due("the last bit, told ahead of its road", last.found(15, false), 0);
    }

    // Promise 14
    private void same() {
        AskNext x = Checks.with(LAND);
        due("half told", x.same(0, 1, 50), 1);
        due("13 of 45", x.think(0, 0), 13);
        due("13 of 45", x.think(0, 1), 45);
        x.anew();
        due("all told", x.same(0, 1, 100), 1);
        due("as one answer", x.think(0, 1), 25);
        x.anew();
        due("none told", x.same(0, 1, 0), 1);
        due("as two answers", x.think(0, 1), 155);
        x.anew();
        due("nobody twice", x.same(0, -1, 30), 0);
        due("3 of 5", x.think(0, 1), 5);
        due("sure", x.same(0, 0, 30), 0);
        due("can't be", x.same(1, 0, 30), -3);
        due("stays", x.think(0, 1), 1);
        for (int wrong : new int[] {-2, 101, MIN, MAX}) {
            due("same", x.same(wrong, 0, 0), -1);
            due("same", x.same(0, wrong, 0), -1);
            due("same", x.same(0, 0, wrong), -1);
        }
        due("same", x.same(8, 0, 0), -1);
        due("same", x.same(0, 2, 0), -1);
        due("same", x.same(0, 0, -1), -1);
        due("-1 ahead of -3", new AskNext().same(0, -1, 101), -1);
    }

    // Promise 15
    private void think() {
        AskNext x = Checks.with(LAND);
        due("3 of 5", x.think(0, 0), 3);
        due("3 of 5", x.think(0, 1), 5);
        due("2 of 5", x.think(1, 0), 2);
        due("2 of 5", x.think(1, 1), 5);
        for (int wrong : new int[] {-1, 2, 5, MIN, MAX}) {
            due("think", x.think(wrong, 0), LONGS - 1);
            due("think", x.think(0, wrong), LONGS - 1);
        }
        due("no world", new AskNext().think(0, 0), LONGS - 1);
    }

    private int judged(AskNext x, int sort, int... told) {
        x.row(6, sort, told.length);
        for (int i = 0; i < told.length; i++) {
            x.put(6, i, told[i]);
        }
        return x.judge(6);
    }

    // Promise 16
    private void judge() {
        AskNext x = Checks.with(LAND);
        for (int sort = 0; sort < 3; sort++) {
            int none = new int[] {-128, -32768, MIN}[sort];
            due("right", judged(x, sort, 60, 40), -4);
            due("wrong", judged(x, sort, 61, 40), 0);
            due("wrong", judged(x, sort, 60, 41), 1);
            due("too short", judged(x, sort), 0);
            due("too short", judged(x, sort, 60), 1);
            due("wrong ahead of too short", judged(x, sort, 59), 0);
            due("too long", judged(x, sort, 60, 40, 0), 2);
            due("wrong ahead of too long", judged(x, sort, 60, 39, 0), 1);
            due("not told", judged(x, sort, none, 40), -4);
            due("none told", judged(x, sort, none, none), -4);
            due("one told", judged(x, sort, none, 1), 1);
            due("not told, too long", judged(x, sort, 60, none, none), 2);
        }
        due("of shorts -128 is told", judged(x, 1, -128, 40), 0);
        due("of ints -32768 is told", judged(x, 2, -32768, 40), 0);
        x.same(0, 1, 50);
        due("13 of 45, 32 of 45, cut", judged(x, 0, 28, 71), -4);
        due("not rounded", judged(x, 0, 29, 71), 0);
        due("no shelf", x.judge(8), -1);
        due("no shelf", x.judge(-1), -1);
        due("nothing", x.judge(5), -11);
        x.keep(5, 1, 0, 0);
        due("a rule", x.judge(5), -12);
        due("-1 ahead of -3", new AskNext().judge(8), -1);
        due("-3 ahead of -11", new AskNext().judge(0), -3);
    }

    // Promise 17
    private void walk() {
        AskNext x = Checks.with(LAND);
        due("walk", x.walk(0, 0), 13);
        due("walk", x.walk(1, 0), 7);
        due("there", x.walk(0, 2), 0);
        due("goes on from no goal", x.walk(1, 2), 6);
        due("no way, in either", x.walk(0, 4), 99999);
        due("in mind", x.think(0, 1), 5);
        AskNext shut = Checks.with("r01 5;r02 3;r21 4;w60 1 0;w40 1 1;");
        due("open", shut.walk(0, 0), 5);
        due("found shut, no time goes by", shut.walk(1, 0), 7);
        due("found open", shut.found(0, false), 1);
        due("the other way", shut.walk(0, 0), 7);
        AskNext island = Checks.with(ISLAND);
        due("there", island.walk(0, 0), 10);
        due("lost", island.walk(1, 0), 99999);
        due("no goal here, then none of a way", island.walk(1, 1), 99999);
        AskNext none = Checks.with("r01 10;w60 3 0;w40 1 0;");
        due("none of a way: the next likeliest", none.walk(1, 0), 10);
        AskNext goals = Checks.with("r01 10;r12 9;w40 1 0;w35 1 4;w25 2 0;");
        due("all with that goal are out", goals.walk(2, 0), 19);
        for (int wrong : new int[] {-1, 8, MIN, MAX}) {
            due("walk", x.walk(wrong, 0), -1);
            due("walk", x.walk(0, wrong), -1);
        }
        due("walk", x.walk(2, 0), -1);
        due("-1 ahead of -3", new AskNext().walk(0, 0), -1);
    }

    // Promise 18
    private void worth() {
        AskNext x = Checks.with(FORK);
        due("10 and 30 against 10 and 10", x.worth(0), 80000);
        due("nobody there", x.worth(1), -20000);
        x.set(1, 0);
        due("it costs nothing", x.worth(0), 100000);
        x.set(1, 30);
        due("it costs much", x.worth(0), -200000);
        due("found", x.found(0, true), 0);
        due("weights 1 and 1", x.worth(0), -4000);
        due("sure", x.answer(0, 0), 0);
        due("sure", x.worth(0), -3000);
        AskNext island = Checks.with(ISLAND, "s0 0;m00 100;a0;");
        due("lost as well", island.worth(0), 0);
        AskNext saved = Checks.with("r01 10;r02 1;r13 60;w60 1 0;w40 3 1;s0 0;m00 100;a0;", "r23 50;");
        // without asking road 0 is found shut at once: the same ways
        due("nothing to be won", saved.worth(0), 0);
        AskNext stuck = Checks.with("r01 10;w60 3 0;w40 1 0;s1 0;m00 100;a1;");
        due("all say the same", stuck.worth(0), -10000);
        for (int wrong : new int[] {-1, 8, MIN, MAX}) {
            due("worth", x.worth(wrong), LONGS - 1);
        }
        due("-1 ahead of -3", new AskNext().worth(8), LONGS - 1);
        due("-3", new AskNext().worth(7), LONGS - 3);
    }

    // Promise 19
    private void never() {
        AskNext x = Checks.with(FORK);
        due("10 is as good as not", x.never(0), 11);
        due("nobody there", x.never(1), 1);
        x.set(1, 30);
        due("whatever it costs now", x.never(0), 11);
        due("none", Checks.with("r01 60;r02 60;w50 1 0;w50 2 0;s0 0;m00 100;").never(0), -4);
        due("the last", Checks.with("r01 29;r02 29;w50 1 0;w50 2 0;s0 0;m00 100;").never(0), 30);
        due("just none", Checks.with("r01 30;r02 30;w50 1 0;w50 2 0;s0 0;m00 100;").never(0), -4);
        for (int wrong : new int[] {-1, 8, MIN, MAX}) {
            due("never", x.never(wrong), -1);
        }
        due("-1 ahead of -3", new AskNext().never(8), -1);
    }

    private void by(AskNext x, String what, int world, int z, int... due) {
        for (int i = 0; i < due.length; i++) {
            due(what + ", what " + i, x.by(1, world, z, i), due[i]);
        }
    }

    // Promise 20
    private void byPlain() {
        AskNext x = Checks.with(LAND);
        x.keep(1, 1, 0, 99);
        by(x, "a rule never asks", 0, 7, 13, 0, 3);
        by(x, "a rule never asks", 1, 7, 7, 0, 1);
        x.answer(0, 0);
        by(x, "by chances, not by the thought", 1, 7, 7, 0, 1);
        x.set(0, 2);
        by(x, "there at once", 0, 7, 0, 0, 0);
        by(x, "from start", 1, 7, 6, 0, 2);
        AskNext island = Checks.with(ISLAND);
        island.keep(1, 1, 0, 0);
        by(island, "lost", 1, 0, 99999, 0, 1);
    }

    private void byFirstAndMost() {
        AskNext x = Checks.with(DOUBT);
        x.keep(1, 1, 1, 5);
        // 3 draws 47: who knows
        by(x, "first, told", 0, 3, 12, 1, 1);
        by(x, "first, told", 1, 3, 12, 1, 1);
        // 7 draws 64: who thinks it is world 1
        by(x, "first, misled", 0, 7, 32, 1, 3);
        by(x, "first, told", 1, 7, 12, 1, 1);
        // -9 draws 95: nobody
        by(x, "first, nobody", 0, -9, 12, 1, 1);
        by(x, "first, nobody", 1, -9, 32, 1, 3);
        x.set(1, 30);
        by(x, "first, dear", 1, 3, 40, 1, 1);
        x.set(0, 2);
        by(x, "there at once, asks nobody", 1, 3, 0, 0, 0);
        AskNext fork = Checks.with("r01 10;r02 10;w60 1 0;w40 2 0;s1 1;m00 100;");
        fork.keep(1, 1, 1, 0);
        by(fork, "misled, then chances again", 0, 0, 32, 1, 3);
        fork.keep(1, 1, 2, 3);
        by(fork, "asks thrice", 0, 0, 36, 3, 3);
        by(fork, "asks thrice", 1, 0, 16, 3, 1);
        fork.keep(1, 1, 2, 0);
        by(fork, "asks not at all", 0, 0, 10, 0, 1);
        by(fork, "asks not at all", 1, 0, 30, 0, 3);
        Checks.tell(fork, "m00 0;a5;");
        fork.keep(1, 1, 1, 0);
        by(fork, "nobody: believes nothing", 1, 0, 35, 1, 3);
        fork.keep(1, 1, 2, 2);
        by(fork, "all nobody: believes nothing", 1, 0, 40, 2, 3);
        AskNext two = Checks.with("r01 10;r02 10;w40 1 0;w60 2 0;s1 0;s1 1;m00 50;m01 50;");
        two.keep(1, 1, 2, 2);
        // 7 draws 64, 6, 68: they say 1, 0, 1; of one each the least is believed
        by(two, "of several the least", 0, 7, 14, 2, 1);
        by(two, "of several the least", 1, 7, 34, 2, 3);
        two.keep(1, 1, 2, 3);
        by(two, "two of three", 1, 7, 16, 3, 1);
        AskNext island = Checks.with(ISLAND, "s1 0;m00 100;a0;");
        island.keep(1, 1, 1, 0);
        by(island, "chances again once, then lost", 1, 0, 99999, 1, 1);
    }

    private void byThinkAndBack() {
        AskNext x = Checks.with(LAND);
        x.keep(1, 1, 3, 0);
        by(x, "think, told", 1, 3, 9, 1, 1);
        x.keep(1, 1, 4, 60);
        by(x, "60 isn't less than 60 hundredths", 1, 3, 7, 0, 1);
        x.keep(1, 1, 4, 61);
        by(x, "60 is less than 61 hundredths", 1, 3, 9, 1, 1);
        x.keep(1, 1, 4, 0);
        by(x, "never less than 0", 1, 3, 7, 0, 1);
        AskNext line = Checks.with("r01 1;r12 1;r23 1;w60 3 0;w40 4 0;a3;s0 0;");
        line.keep(1, 1, 3, 0);
        by(line, "asks at 0, 1, 2, not where it is there", 0, 9, 12, 3, 3);
        Checks.tell(line, "m00 100;");
        by(line, "told of a world with no way", 1, 9, 99999, 1, 0);
        line.keep(1, 1, 4, 99);
        by(line, "sure from 0 on", 0, 9, 6, 1, 3);
        AskNext fork = Checks.with("r01 10;r02 10;w60 1 0;w40 2 0;s1 1;m10 100;");
        fork.keep(1, 1, 3, 0);
        by(fork, "again as it comes again", 1, 0, 36, 3, 3);
        AskNext lie = Checks.with("r01 10;w60 3 0;w30 1 0;w10 2 0;s0 0;s1 2;a0;r12 1;");
        lie.keep(1, 1, 3, 0);
        Checks.tell(lie, "m10 100;");
        by(lie, "an answer by which all would be 0 changes nothing", 2, 0, 11, 2, 2);
        AskNext swaying = Checks.with("r01 1;r02 60;r13 60;w50 2 0;w49 3 0;w1 7 0;s1 0;s1 1;s0 0;", "m01 97;m02 3;m10 97;m12 3;");
        swaying.keep(1, 1, 3, 0);
        by(swaying, "lost after 200 steps, asks where the last one came to", 2, 337, 99999, 201, 200);
        swaying.keep(1, 1, 4, 99);
        by(swaying, "back asks there as well", 2, 337, 99999, 201, 200);
    }

    /** One sways between 1 and 2, as who is met there mostly misleads. */
    private AskNext swaying(int kind, int figure) {
        AskNext x = Checks.with("r12 1;r23 1;r14 60;r45 60;r56 60;r60 60;w50 0 0;w50 3 0;",
                "s0 0;s1 0;s1 1;m10 1;m12 99;m20 1;m21 99;b1;a0;");
        x.keep(1, 1, kind, figure);
        return x;
    }

    // Promises 20 to 23, where a walk makes 200 steps
    private void lastStep() {
        for (int kind = 3; kind <= 4; kind++) {
            AskNext x = swaying(kind, 99);
            by(x, "there with the 200th step", 1, 56, 200, 200, 200);
            // sure from crossing 1 on, where four roads are left: back asks no more
            by(x, "there with the 200th step", 0, 882, 436, kind == 3 ? 200 : 197, 200);
            by(x, "not there with the 200th step", 1, 894, 99999, 201, 200);
            x.set(1, 30);
            by(x, "there, and it costs much", 1, 56, 6200, 200, 200);
        }
        AskNext x = swaying(3, 0);
        due("there as often as told", x.mean(1, 1, 56), 50 * 276 + 50 * 200);
        due("lost as 999", x.mean(1, 1, 894), 50 * 436 + 50 * 999);
        due("there by its minute", x.dusk(1, 1, 56, 200), 50);
        due("not ahead of it", x.dusk(1, 1, 56, 199), 0);
        due("never, if it is lost", x.dusk(1, 1, 894, 9999), 50);
        x.row(6, 0, 2);
        x.put(6, 1, 3);
        due("a rule is 36100", x.best(6, 0, 1, 56), 1);
        due("a rule is 36100, one is lost", x.best(6, 0, 1, 894), 0);
        AskNext barred = Checks.with("r12 1;r23 1;r01 1;w34 5 0;w33 0 0;w33 3 0;",
                "s0 0;s1 1;s1 2;m10 1;m12 99;m20 1;m21 99;b1;a1;");
        barred.keep(1, 1, 3, 0);
        by(barred, "a step without a road is one of 200", 1, 1, 99999, 200, 199);
    }

    private void byTold() {
        AskNext fork = Checks.with("r01 10;r02 10;w60 1 0;w40 2 0;");
        fork.keep(1, 1, 5, 1);
        by(fork, "told right", 1, 0, 10, 0, 1);
        by(fork, "told wrong: chances again", 0, 0, 30, 0, 3);
        fork.keep(1, 1, 5, 2);
        by(fork, "no such world", 1, 0, 30, 0, 3);
        AskNext island = Checks.with(ISLAND);
        island.keep(1, 1, 5, 0);
        by(island, "once, then lost", 1, 0, 99999, 0, 1);
        island.keep(1, 1, 5, 1);
        by(island, "told what can't be reached", 0, 0, 10, 0, 1);
        AskNext farther = Checks.with("r01 10;r02 10;w50 1 0;w30 2 0;w20 7 0;");
        farther.keep(1, 1, 5, 0);
        by(farther, "chances again only once", 2, 0, 99999, 0, 3);
    }

    private void byRefusals() {
        AskNext x = Checks.with(LAND);
        x.row(2, 0, 1);
        x.keep(1, 1, 0, 0);
        for (int wrong : new int[] {-1, 8, MIN, MAX}) {
            due("by", x.by(wrong, 0, 0, 0), -1);
            due("by", x.by(1, wrong, 0, 0), -1);
            due("by", x.by(1, 0, 0, wrong), -1);
            due("mean", x.mean(wrong, 1, 0), -1);
            due("dusk", x.dusk(wrong, 1, 0, 0), -1);
        }
        due("by", x.by(1, 2, 0, 0), -1);
        due("by", x.by(1, 0, 0, 3), -1);
        due("by", x.by(3, 0, 0, 0), -11);
        due("by", x.by(2, 0, 0, 0), -12);
        due("-1 ahead of -11", x.by(3, 0, 0, 3), -1);
        for (int wrong : new int[] {0, 21, -1, MIN, MAX}) {
            due("mean", x.mean(1, wrong, 0), -1);
            due("dusk", x.dusk(1, wrong, 0, 0), -1);
        }
        due("mean", x.mean(3, 1, 0), -11);
        due("mean", x.mean(2, 1, 0), -12);
        due("dusk", x.dusk(3, 1, 0, 0), -11);
        due("dusk", x.dusk(2, 1, 0, 0), -12);
        for (int wrong : new int[] {-1, 10000, MIN, MAX}) {
            due("dusk", x.dusk(1, 1, 0, wrong), -1);
        }
        AskNext none = new AskNext();
        due("-11 ahead of -3", none.mean(0, 1, 0), -11);
        due("-11 ahead of -3", none.dusk(0, 1, 0, 0), -11);
        due("-11 ahead of -3", none.best(0, 0, 1, 0), -11);
        none.keep(0, 1, 0, 0);
        due("-3", none.mean(0, 1, 0), -3);
        due("-3", none.dusk(0, 1, 0, 0), -3);
        due("no world", none.by(0, 0, 0, 0), -1);
    }

    // Promise 21
    private void mean() {
        AskNext x = Checks.with("r01 10;r02 10;w60 1 0;w40 2 0;s0 0;m00 100;");
        x.keep(1, 1, 0, 0);
        due("60 times 10 and 40 times 30", x.mean(1, 1, 0), 1800);
        due("for 20 seeds", x.mean(1, 20, MAX), 36000);
        x.keep(1, 1, 1, 0);
        due("12 each", x.mean(1, 3, 0), 3600);
        AskNext island = Checks.with(ISLAND);
        island.keep(1, 1, 0, 0);
        due("lost as 999", island.mean(1, 2, 0), 2 * (600 + 40 * 999));
        AskNext seeds = Checks.with(DOUBT);
        seeds.keep(1, 1, 1, 0);
        int together = 0;
        for (int i = 0; i < 5; i++) {
            together += 60 * seeds.by(1, 0, MAX - 1 + i, 0) + 40 * seeds.by(1, 1, MAX - 1 + i, 0);
        }
        due("seed after seed, over the greatest", seeds.mean(1, 5, MAX - 1), together);
        int three = seeds.mean(1, 1, 6) + seeds.mean(1, 1, 7) + seeds.mean(1, 1, 8);
        due("seed after seed", seeds.mean(1, 3, 6), three);
        AskNext run = Checks.with(LAND);
        run.keep(1, 1, 3, 0);
        due("of a run", run.mean(1, 4, 1), 6000);
    }

    // Promise 22
    private void dusk() {
        AskNext x = Checks.with("r01 10;r02 10;w60 1 0;w40 2 0;s0 0;m00 100;");
        x.keep(1, 1, 0, 0);
        due("none", x.dusk(1, 3, 0, 9), 0);
        due("by the very minute", x.dusk(1, 3, 0, 10), 180);
        due("not yet", x.dusk(1, 3, 0, 29), 180);
        due("all", x.dusk(1, 3, 0, 30), 300);
        due("all", x.dusk(1, 20, 0, 9999), 2000);
        x.set(0, 1);
        due("there at once", x.dusk(1, 1, 0, 0), 60);
        AskNext seeds = Checks.with(DOUBT);
        seeds.keep(1, 1, 1, 0);
        int together = 0;
        for (int i = 0; i < 9; i++) {
            together += seeds.dusk(1, 1, 3 + i, 12);
        }
        due("seed after seed", seeds.dusk(1, 9, 3, 12), together);
        due("told, at 3 and 7 in one world or both", seeds.dusk(1, 1, 3, 12) + seeds.dusk(1, 1, 7, 12), 140);
        AskNext island = Checks.with(ISLAND);
        island.keep(1, 1, 0, 0);
        due("lost ones never", island.dusk(1, 1, 0, 9999), 60);
    }

    private int best(AskNext x, int figure, int... kinds) {
        x.row(6, 0, kinds.length);
        for (int i = 0; i < kinds.length; i++) {
            x.put(6, i, kinds[i]);
        }
        return x.best(6, figure, 2, 5);
    }

    // Promise 23
    private void best() {
        AskNext x = Checks.with(FORK);
        due("first is better than rule", best(x, 0, 0, 1), 1);
        due("of several the first", best(x, 9, 5, 0, 5), 0);
        due("think asks no more than first here", best(x, 3, 0, 2, 3, 1), 2);
        due("told what is", best(x, 1, 0, 5), 0);
        due("one", best(x, 99, 4), 0);
        due("six", best(x, 1, 0, 1, 2, 3, 4, 5), 1);
        due("none", best(x, 0), -13);
        due("seven", best(x, 0, 0, 0, 0, 0, 0, 0, 0), -13);
        due("no kind", best(x, 0, 0, 6), -13);
        due("no kind", best(x, 0, -1), -13);
        x.row(5, 1, 1);
        due("shorts", x.best(5, 0, 1, 0), -12);
        x.keep(5, 1, 0, 0);
        due("a rule", x.best(5, 0, 1, 0), -12);
        due("nothing", x.best(4, 0, 1, 0), -11);
        x.row(6, 0, 1);
        for (int wrong : new int[] {-1, 100, MIN, MAX}) {
            due("figure", x.best(6, wrong, 1, 0), -1);
            due("seeds", x.best(6, 0, wrong, 0), -1);
            due("shelf", x.best(wrong, 0, 1, 0), -1);
        }
        due("seeds", x.best(6, 0, 0, 0), -1);
        due("seeds", x.best(6, 0, 21, 0), -1);
        due("seeds", x.best(6, 0, 20, 0), 0);
        AskNext none = new AskNext();
        due("-13 ahead of -3", best(none, 0, 6), -13);
        due("-3", best(none, 0, 5), -3);
    }

    // Promise 24
    private void post() {
        due("at start", Checks.with("r31 10;r32 10;w50 1 0;w50 2 0;b3;").post(2, 0), 3);
        due("of several the least", Checks.with("r30 5;r01 10;r02 10;w50 1 0;w50 2 0;b3;").post(2, 0), 0);
        due("as early as can be", Checks.with("r34 5;r41 10;r42 10;w50 1 0;w50 2 0;b3;").post(20, 7), 3);
        due("nothing to be won", Checks.with("r01 10;w100 1 0;b0;").post(1, 0), 0);
        AskNext ahead = Checks.with("r76 10;r61 5;r62 5;r75 30;w50 1 0;w30 2 0;w20 5 0;b7;");
        due("at start all is told", ahead.post(1, 0), 7);
        AskNext full = Checks.with("r76 10;r61 5;r62 5;w60 1 0;w40 2 0;s0 0;m70 100;b7;");
        due("who knows is at start already", full.post(3, 0), 0);
        for (int wrong : new int[] {0, 21, -1, MIN, MAX}) {
            due("seeds", full.post(wrong, 0), -1);
        }
        due("-1 ahead of -3", new AskNext().post(0, 0), -1);
        due("-3", new AskNext().post(20, 0), -3);
    }

    // Promises 25, 26
    private void image() {
        AskNext x = new AskNext();
        due("no image", x.restore(), -3);
        due("of nothing", x.image(), 0);
        Checks.tell(x, LAND);
        due("nothing again", x.restore(), 0);
        due("no roads", x.count(0), 0);
        due("no start of a thought", x.think(0, 0), LONGS - 1);
        due("shelves stay", x.land(0), 10);
        x.answer(0, 1);
        x.set(0, 1);
        x.set(1, 9);
        due("two worlds", x.image(), 2);
        Checks.tell(x, "r45 5;s4 0;m00 1;b6;a8;m12 20;");
        x.keep(3, 1, 2, 2);
        x.answer(0, 0);
        for (int times = 0; times < 2; times++) {
            due("restored", x.restore(), 2);
            due("roads", x.count(0), 4);
            due("sorts", x.count(2), 2);
            due("start", x.count(4), 1);
            due("cost", x.set(1, 9), 9);
            due("met", x.met(0, 0), 50);
            due("met elsewhere", x.chance(1, -1, 0), 100);
            due("ways", x.way(0, 4), 99999);
            due("the thought", x.think(0, 1), 25);
            due("shelves stay", x.weight(3), 6);
            x.anew();
            x.set(0, 5);
        }
    }

    // Promise 27
    private void count() {
        AskNext x = Checks.with(LAND, "b5;s2 0;");
        int[] due = {4, 2, 3, 100, 5, 23};
        for (int what = 0; what < 6; what++) {
            due("count " + what, x.count(what), due[what]);
        }
        for (int wrong : new int[] {-1, 6, MIN, MAX}) {
            due("count", x.count(wrong), -1);
        }
    }

    // Promise 28
    private void keep() {
        AskNext x = new AskNext();
        due("keep", x.keep(7, 1, 5, 99), 0);
        due("kept", x.weight(7), 993);
        for (int wrong : new int[] {-1, 8, MIN, MAX}) {
            due("shelf", x.keep(wrong, 1, 0, 0), -1);
            due("shelf", x.keep(wrong, 0, 0, 0), -1);
            due("what", x.keep(7, wrong, 0, 0), -1);
            due("kind", x.keep(7, 1, wrong, 0), -1);
        }
        due("kind", x.keep(7, 1, 6, 0), -1);
        due("figure", x.keep(7, 1, 0, 100), -1);
        due("figure", x.keep(7, 1, 0, -1), -1);
        due("what", x.keep(7, 2, 0, 0), -1);
        due("as it was", x.weight(7), 993);
        due("nothing, whatever the others", x.keep(7, 0, MIN, MAX), 0);
        due("nothing", x.weight(7), -11);
        x.row(7, 0, 1);
        due("a rule for a row", x.keep(7, 1, 0, 0), 0);
        due("no row", x.put(7, 0, 0), -12);
        x.row(7, 0, 1);
        due("a row for a rule", x.weight(7), -12);
        due("nothing for a row", x.keep(7, 0, 0, 0), 0);
        due("nothing", x.put(7, 0, 0), -11);
    }

    // Promise 29
    private void row() {
        AskNext x = new AskNext();
        for (int sort = 0; sort < 3; sort++) {
            due("row", x.row(sort, sort, 100), 0);
            due("0 at first", x.element(sort, 99), 0);
            due("its end", x.put(sort, 100, 1), -13);
        }
        due("row", x.row(0, 0, 0), 0);
        due("empty", x.put(0, 0, 1), -13);
        x.put(1, 0, 5);
        for (int wrong : new int[] {-1, 8, MIN, MAX}) {
            due("shelf", x.row(wrong, 0, 0), -1);
            due("sort", x.row(1, wrong, 0), -1);
            due("-1 ahead of -14", x.row(wrong, 0, -1), -1);
        }
        due("sort", x.row(1, 3, 0), -1);
        due("above 100", x.row(1, 0, 101), -1);
        due("above 100", x.row(1, 0, MAX), -1);
        due("below 0", x.row(1, 0, -1), -14);
        due("below 0", x.row(1, 0, MIN), -14);
        due("as it was", x.element(1, 0), 5);
        due("anew", x.row(1, 1, 1), 0);
        due("0 again", x.element(1, 0), 0);
    }

    // Promise 30
    private void put() {
        AskNext x = new AskNext();
        int[] values = {0, 127, 128, 255, -129, 32767, 32768, 65535, -32769, MAX, MIN};
        for (int sort = 0; sort < 3; sort++) {
            x.row(sort, sort, 3);
            for (int v : values) {
                due("put", x.put(sort, 2, v), 0);
                due("lowest bits of " + v, x.element(sort, 2), sort == 0 ? (byte) v : sort == 1 ? (short) v : v);
            }
            due("its neighbour", x.element(sort, 1), 0);
            for (int wrong : new int[] {-1, 3, MIN, MAX}) {
                due("place", x.put(sort, wrong, 1), -13);
            }
        }
        for (int wrong : new int[] {-1, 8, MIN, MAX}) {
            due("shelf", x.put(wrong, 0, 0), -1);
        }
        due("nothing", x.put(5, 0, 0), -11);
        x.keep(5, 1, 0, 0);
        due("a rule", x.put(5, 0, 0), -12);
    }

    // Promise 31
    private void element() {
        AskNext x = new AskNext();
        x.row(0, 2, 2);
        x.put(0, 1, MIN);
        due("element", x.element(0, 1), MIN);
        x.keep(1, 1, 0, 0);
        for (int wrong : new int[] {-1, 8, MIN, MAX}) {
            due("no such shelf", Checks.thrownByElement(x, wrong, 0), 1);
        }
        for (int wrong : new int[] {-1, 2, MIN, MAX}) {
            due("no such place", Checks.thrownByElement(x, 0, wrong), 2);
        }
        due("a rule", Checks.thrownByElement(x, 1, 0), 2);
        due("nothing", Checks.thrownByElement(x, 2, 0), 2);
        due("a place", Checks.thrownByElement(x, 0, 0), 0);
    }

    // Promise 32
    private void copy() {
        AskNext x = new AskNext();
        for (int d = 0; d < 2; d++) {
            x.row(d, 0, 5);
            for (int i = 0; i < 5; i++) {
                x.put(d, i, 10 * d + i);
            }
        }
        due("copy", x.copy(0, 1, 1, 2, 3), 3);
        int[] due = {10, 11, 1, 2, 3};
        for (int i = 0; i < 5; i++) {
            due("copied", x.element(1, i), due[i]);
        }
        due("onto itself, up", x.copy(0, 0, 0, 1, 4), 4);
        due("the second", x.element(0, 1), 0);
        due("the last", x.element(0, 4), 3);
        due("onto itself, down", x.copy(0, 1, 0, 0, 4), 4);
        due("the first", x.element(0, 0), 0);
        due("the last but one", x.element(0, 3), 3);
        due("none, at the end", x.copy(0, 5, 1, 5, 0), 0);
        due("all", x.copy(0, 0, 1, 0, 5), 5);
        for (int wrong : new int[] {-1, 6, MIN, MAX}) {
            due("from", x.copy(0, wrong, 1, 0, 0), -13);
            due("to", x.copy(0, 0, 1, wrong, 0), -13);
            due("how many", x.copy(0, 0, 1, 0, wrong), -13);
        }
        due("too many", x.copy(0, 3, 1, 0, 3), -13);
        due("too many", x.copy(0, 0, 1, 3, 3), -13);
        due("too many", x.copy(0, 1, 1, 1, MAX), -13);
        for (int wrong : new int[] {-1, 8, MIN, MAX}) {
            due("shelf", x.copy(wrong, 0, 0, 0, 0), -1);
            due("shelf", x.copy(0, 0, wrong, 0, 0), -1);
        }
        x.keep(3, 1, 0, 0);
        x.row(4, 1, 5);
        due("nothing", x.copy(0, 0, 2, 0, 1), -11);
        due("nothing", x.copy(2, 0, 0, 0, 1), -11);
        due("-11 ahead of -12", x.copy(3, 0, 2, 0, 1), -11);
        due("-11 ahead of -12", x.copy(2, 0, 3, 0, 1), -11);
        due("a rule", x.copy(3, 0, 0, 0, 1), -12);
        due("a rule", x.copy(0, 0, 3, 0, 1), -12);
        due("of another sort", x.copy(0, 0, 4, 0, 1), -12);
        due("-12 ahead of -13", x.copy(0, 0, 4, 0, -1), -12);
    }

    // Promise 33
    private void weight() {
        AskNext x = new AskNext();
        int[][] due = {{3, 3, 3}, {4, 4, 4}, {4, 11, 103}, {6, 6, 6}, {6, 13, 105}, {3, 73, 993}};
        int[] figures = {0, 7, 99};
        for (int kind = 0; kind < 6; kind++) {
            for (int i = 0; i < 3; i++) {
                x.keep(0, 1, kind, figures[i]);
                due("weight of kind " + kind, x.weight(0), due[kind][i]);
            }
        }
        for (int wrong : new int[] {-1, 8, MIN, MAX}) {
            due("shelf", x.weight(wrong), -1);
            due("shelf", x.toss(wrong), -1);
        }
        due("nothing", x.weight(1), -11);
        x.row(1, 0, 0);
        due("a row", x.weight(1), -12);
    }

    // Promise 34
    private void toss() {
        AskNext x = new AskNext();
        int[][] due = {{-15, 1, 99}, {-15, 1, 99}, {-15, 101, 199}, {-15, 1, 99}, {-15, 207, 305}, {-15, -15, -15}};
        int[] figures = {0, 1, 99};
        for (int kind = 0; kind < 6; kind++) {
            for (int i = 0; i < 3; i++) {
                x.keep(0, 1, kind, figures[i]);
                due("toss of kind " + kind, x.toss(0), due[kind][i]);
            }
        }
        due("nothing", x.toss(1), -11);
        x.row(1, 0, 0);
        due("a row", x.toss(1), -12);
    }
}
