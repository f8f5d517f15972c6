/** The document's sections 1 and 2: each sentence that names a boundary, on both sides of it. */
public final class LandBoundaryTest {
    private static final int NONE = 99999;
    /** Eight ROADS, of 48 bytes. */
    private static final String EIGHT_ROADS = "r01 1;r01 1;r01 1;r01 1;r01 1;r01 1;r01 1;r01 1;";
    private static final String SIX_SORTS = "s0 0;s0 0;s0 0;s0 0;s0 0;s0 0;";
    /** A text of 100 bytes, as many as a ROW can have, with 15 STATEMENTS. */
    private static final String LONGEST =
            "r01 10;r12 5;r23 60;w50 2 0;w30 3 65535;s0 0;s1 99;s2 3;m00 50;m01 30;m72 100;b7;a30;a3;w20 0 32767;";

    private final Checks checks = new Checks();

    public static void main(String[] args) {
        LandBoundaryTest test = new LandBoundaryTest();
        test.crossings();
        test.allCrossingsAreThere();
        test.oneCrossingTwice();
        test.roads();
        test.minutes();
        test.worlds();
        test.chances();
        test.shutBits();
        test.shutAheadOfItsRoad();
        test.ready();
        test.sorts();
        test.sortKinds();
        test.sortFigures();
        test.thinksTheLastOne();
        test.pleasesTheLeast();
        test.misleadsAndBackward();
        test.metTogether();
        test.metAgain();
        test.sortAheadOfMet();
        test.nobodyIsMet();
        test.answersOfFiveWorlds();
        test.way();
        test.next();
        test.start();
        test.asking();
        test.numbers();
        test.endsTooEarly();
        test.firstWrongByte();
        test.oneStatementAtLeast();
        test.kindOneAheadOfKindTwo();
        test.firstThatCannotBeDone();
        test.withAFaultNothingComes();
        test.without();
        test.checks.end("LandBoundaryTest");
    }

    private void due(String what, long got, long want) {
        checks.due(what, got, want);
    }

    /** Tells a text to a LAND of other texts; with a FAULT nothing of it may come. */
    private void told(String text, int answer, String... before) {
        AskNext x = Checks.with(before);
        String seen = landOf(x);
        due("land " + text, Checks.tell(x, text), answer);
        checks.isTrue("something comes of " + text + " only without a fault", seen.equals(landOf(x)) == answer < 0);
    }

    /** All that can be seen but the text on SHELF 0. */
    private static String landOf(AskNext x) {
        x.keep(0, 0, 0, 0);
        return Seen.of(x);
    }

    private static final int FAULT = -2000;

    // "CROSSINGS 0 .. 7"
    private void crossings() {
        for (int c = 0; c <= 9; c++) {
            boolean is = c <= 7;
            int other = c == 1 ? 0 : 1;
            told("r" + c + other + " 1;", is ? 1 : FAULT);
            told("r" + other + c + " 1;", is ? 1 : FAULT);
            told("w1 " + c + " 0;", is ? 1 : FAULT);
            told("m" + c + "0 1;", is ? 1 : FAULT, "s0 0;");
            told("b" + c + ";", is ? 1 : FAULT, "b" + (c == 0 ? 1 : 0) + ";a3;");
        }
    }

    // "(all are there)"
    private void allCrossingsAreThere() {
        AskNext x = Checks.with("w100 0 0;s0 0;");
        for (int c = -1; c <= 8; c++) {
            boolean is = c >= 0 && c <= 7;
            due("way from " + c, x.way(0, c), !is ? -1 : c == 0 ? 0 : NONE);
            due("next from " + c, x.next(0, c), is ? -4 : -1);
            due("says at " + c, x.says(0, c, 0), is ? 0 : -1);
            due("chance at " + c, x.chance(c, -1, 0), is ? 100 : -1);
            due("met at " + c, x.met(c, 0), is ? 0 : -1);
            due("answer at " + c, x.answer(c, -1), is ? 0 : -1);
            due("same at " + c, x.same(c, -1, 50), is ? 0 : -1);
            due("walk from " + c, x.walk(0, c), !is ? -1 : c == 0 ? 0 : NONE);
            due("worth at " + c, x.worth(c), is ? -200 : -4000000000000000001L);
            due("never at " + c, x.never(c), is ? 1 : -1);
        }
        for (int c = 0; c <= 7; c++) {
            due("start", x.set(0, c), Math.max(0, c - 1));
        }
        due("start 8", x.set(0, 8), -1);
        due("start below 0", x.set(0, -1), -1);
        due("start 7 stays", x.count(4), 7);
    }

    // "one CROSSING twice"
    private void oneCrossingTwice() {
        for (int c = 0; c <= 7; c++) {
            told("r" + c + c + " 1;", FAULT);
            told("r" + c + (7 - c) + " 1;", 1);
        }
    }

    // "ROADS 0 .. 15 as they come", "no room"
    private void roads() {
        told(EIGHT_ROADS, 8, EIGHT_ROADS);
        told("r01 1;", FAULT, EIGHT_ROADS, EIGHT_ROADS);
        told("r01 1;" + EIGHT_ROADS, FAULT - 48, EIGHT_ROADS);
        told(EIGHT_ROADS + EIGHT_ROADS, 16);
        AskNext x = Checks.with(EIGHT_ROADS, "r01 1;r01 1;r01 1;r01 1;r01 1;r01 1;r01 1;r67 9;");
        due("sixteen", x.count(0), 16);
        due("the last", x.road(15, 0), 6);
        due("the last", x.road(15, 1), 7);
        due("the last", x.road(15, 2), 9);
        due("behind it", x.road(16, 0), -1);
        due("ahead of 0", x.road(-1, 0), -1);
        AskNext two = Checks.with("r01 1;r76 60;w100 0 0;");
        due("first told", two.road(0, 1), 1);
        due("then told", two.road(1, 0), 7);
        due("not told", two.road(2, 0), -1);
        due("found", two.found(1, true), 0);
        due("found one that isn't there", two.found(2, true), -1);
        due("what 2", two.road(1, 2), 60);
        due("what 3", two.road(1, 3), -1);
        due("what below 0", two.road(1, -1), -1);
    }

    // "MINUTES (1 .. 60)"
    private void minutes() {
        told("r01 0;", FAULT);
        told("r01 1;", 1);
        told("r01 60;", 1);
        told("r01 61;", FAULT);
        told("r01 100;", FAULT);
        due("all minutes", Checks.with("r01 60;r12 1;").count(5), 61);
        due("no minutes", new AskNext().count(5), 0);
    }

    // "WORLDS 0 .. 4 as they come", "no room"
    private void worlds() {
        String four = "w1 0 0;w1 1 0;w1 2 0;w1 3 0;";
        told("w96 4 0;", 1, four);
        told("w95 4 0;w1 4 0;", FAULT - 8, four);
        told("w1 4 0;", FAULT, four + "w1 4 0;");
        AskNext x = Checks.with(four, "w96 4 1;");
        for (int w = 0; w <= 4; w++) {
            due("goal of " + w, x.world(w, 1), w);
            due("way in " + w, x.way(w, w), 0);
            due("thought of " + w, x.think(w, 1), w == 4 ? 25 : 100);
        }
        due("its chance", x.world(4, 0), 96);
        due("its shut", x.world(4, 2), 1);
        due("what 3", x.world(4, 3), -1);
        due("no sixth", x.world(5, 0), -1);
        due("no sixth", x.way(5, 0), -1);
        due("no sixth", x.next(5, 0), -1);
        due("no sixth", x.walk(5, 0), -1);
        due("no sixth", x.answer(0, 5), -1);
        due("no sixth", x.think(5, 0), -4000000000000000001L);
        due("none ahead of 0", x.world(-1, 0), -1);
        due("five", x.count(1), 5);
    }

    // "a CHANCE (1 .. 100 hundredths)", "CHANCES .. above 100 together"
    private void chances() {
        told("w0 0 0;", FAULT);
        told("w1 0 0;", 1);
        told("w100 0 0;", 1);
        told("w101 0 0;", FAULT);
        told("w50 0 0;w50 0 0;", 2);
        told("w50 0 0;w51 0 0;", FAULT - 8);
        told("w1 0 0;", 1, "w98 0 0;", "w1 0 0;");
        told("w2 0 0;", FAULT, "w98 0 0;", "w1 0 0;");
        told("w1 0 0;", FAULT, "w100 0 0;");
        due("together", Checks.with("w98 0 0;", "w1 0 0;").count(3), 99);
    }

    // "SHUT 0 .. 65535"
    private void shutBits() {
        told("w1 0 0;", 1);
        told("w1 0 65535;", 1);
        told("w1 0 65536;", FAULT);
        told("w1 0 99999;", FAULT);
        due("as told", Checks.with("w1 0 65535;").world(0, 2), 65535);
        AskNext x = Checks.with("w50 1 32768;w50 1 32767;", EIGHT_ROADS, EIGHT_ROADS);
        due("all but the last are open", x.next(0, 0), 0);
        due("the last is open", x.next(1, 0), 15);
        due("the last found open", x.found(15, true), 1);
        due("so world 0 is out", x.think(0, 0), 0);
        x.anew();
        due("the last found shut", x.found(15, false), 0);
        due("so world 1 is out", x.think(1, 0), 0);
    }

    // "SHUT may have bits of ROADS that there aren't (yet)"
    private void shutAheadOfItsRoad() {
        AskNext x = Checks.with("w100 1 2;r01 5;");
        due("of no road", x.way(0, 0), 5);
        Checks.tell(x, "r01 1;");
        due("then of that one", x.way(0, 0), 5);
        due("then of that one", x.next(0, 0), 0);
        Checks.tell(x, "r01 1;");
        due("not of the next", x.way(0, 0), 1);
        due("not of the next", x.next(0, 0), 2);
    }

    // "The LAND is READY, if CHANCES are 100 together"
    private void ready() {
        AskNext x = Checks.with("w99 0 0;");
        due("99", x.anew(), -3);
        due("99", x.walk(0, 0), -3);
        due("a way needs no ready land", x.way(0, 0), 0);
        due("nor does who is met", x.chance(0, -1, 0), 100);
        Checks.tell(x, "w1 0 0;");
        due("100", x.anew(), 0);
        due("100", x.walk(0, 0), 0);
        due("none", new AskNext().anew(), -3);
    }

    // "SORTS 0 .. 5 of people as they come", "no room"
    private void sorts() {
        told(SIX_SORTS, 6);
        told(SIX_SORTS + "s0 0;", FAULT - 30);
        told("s0 0;", FAULT, SIX_SORTS);
        told("s0 0;", 1, "s0 0;s0 0;s0 0;s0 0;s0 0;");
        told("m05 1;", 1, SIX_SORTS);
        told("m06 1;", FAULT, SIX_SORTS);
        AskNext x = Checks.with("s1 0;s1 1;s1 2;s1 3;s1 4;s1 0;w1 0 0;w1 0 0;w1 0 0;w1 0 0;w1 0 0;m05 7;");
        for (int s = 0; s <= 5; s++) {
            due("says " + s, x.says(s, 0, 0), s == 5 ? 0 : s);
        }
        due("the last is met", x.met(0, 5), 7);
        due("no seventh", x.met(0, 6), -1);
        due("no seventh", x.says(6, 0, 0), -1);
        due("none ahead of 0", x.says(-1, 0, 0), -1);
        due("six", x.count(2), 6);
    }

    // "of KINDS: 0 .. 4"
    private void sortKinds() {
        for (int kind = 0; kind <= 9; kind++) {
            told("s" + kind + " 0;", kind <= 4 ? 1 : FAULT);
        }
    }

    // "FIGURES are 0 .. 99"
    private void sortFigures() {
        for (int kind = 0; kind <= 4; kind++) {
            told("s" + kind + " 0;", 1);
            told("s" + kind + " 99;", 1);
            told("s" + kind + " 100;", FAULT);
        }
    }

    // "1 THINKS: says a told WORLD (FIGURE; the last one, if there isn't such a one)"
    private void thinksTheLastOne() {
        AskNext x = Checks.with("s1 0;s1 1;s1 2;s1 3;s1 99;w20 1 0;w20 2 0;w20 3 0;");
        int[] ofThree = {0, 1, 2, 2, 2};
        for (int s = 0; s < 5; s++) {
            due("of three says " + s, x.says(s, 0, 0), ofThree[s]);
        }
        Checks.tell(x, "w20 4 0;");
        int[] ofFour = {0, 1, 2, 3, 3};
        for (int s = 0; s < 5; s++) {
            due("of four says " + s, x.says(s, 0, 1), ofFour[s]);
        }
        due("of one", Checks.with("s1 1;w100 0 0;").says(0, 0, 0), 0);
    }

    // "2 PLEASES: says the WORLD by which the way from here is shortest (of several the least)"
    private void pleasesTheLeast() {
        AskNext x = Checks.with("r01 5;r02 4;r03 4;r45 1;w20 1 0;w20 2 0;w20 3 0;w20 6 0;s2 0;");
        for (int w = 0; w < 4; w++) {
            due("of several the least, whatever is so", x.says(0, 0, w), 1);
            due("all are none", x.says(0, 4, w), 0);
            due("at a goal", x.says(0, 3, w), 2);
            due("only one is there", x.says(0, 6, w), 3);
        }
        due("at the least's own goal", x.says(0, 1, 3), 0);
        AskNext later = Checks.with("r01 5;r02 6;w50 1 0;w50 2 0;s2 0;");
        due("by a minute", later.says(0, 0, 1), 0);
        Checks.tell(later, "r02 5;");
        due("as short: the least", later.says(0, 0, 1), 0);
        Checks.tell(later, "r02 4;");
        due("by a minute", later.says(0, 0, 0), 1);
        AskNext shut = Checks.with("r01 5;r02 6;w50 1 1;w50 2 2;s2 0;");
        due("all roads shut: of several the least", shut.says(0, 0, 1), 0);
        AskNext barred = Checks.with("r01 5;r02 6;w50 1 1;w50 2 0;s2 0;");
        due("a road shut in a world makes its way none", barred.says(0, 0, 0), 1);
    }

    // "3 MISLEADS: .. (behind the last one 0); 4 BACKWARD: .. (ahead of 0 the last)"
    private void misleadsAndBackward() {
        String text = "s3 0;s4 0;";
        AskNext x = new AskNext();
        for (int worlds = 1; worlds <= 5; worlds++) {
            Checks.tell(x, text + "w20 0 0;");
            text = "";
            for (int w = 0; w < worlds; w++) {
                due("misleads", x.says(0, 0, w), w == worlds - 1 ? 0 : w + 1);
                due("backward", x.says(1, 0, w), w == 0 ? worlds - 1 : w - 1);
            }
        }
    }

    // "MET at a CROSSING: hundredths of each SORT (0 at first; 100 together at most)"
    private void metTogether() {
        String two = "s0 0;s0 0;";
        told("m00 0;b1;", 2, two);
        told("m00 100;", 1, two);
        told("m00 101;", FAULT, two);
        told("m00 99;m01 1;", 2, two);
        told("m00 99;m01 2;", FAULT - 7, two);
        told("m01 1;", 1, two, "m00 99;");
        told("m01 2;", FAULT, two, "m00 99;");
        told("m00 100;m11 100;m70 100;", 3, two);
        AskNext x = Checks.with(two);
        for (int c = 0; c < 8; c++) {
            due("0 at first", x.met(c, 1), 0);
        }
        Checks.tell(x, "m71 100;");
        due("as told", x.met(7, 1), 100);
        due("not elsewhere", x.met(6, 1), 0);
        due("not of another", x.met(7, 0), 0);
        Checks.tell(x, "s0 0;");
        due("0 at first, of one more", x.met(7, 2), 0);
        due("of a sort that isn't there", x.met(7, 3), -1);
    }

    // "MET told again takes the place of what was told for that SORT there"
    private void metAgain() {
        String full = "s0 0;s0 0;m00 60;m01 40;";
        told("m00 60;b1;", 2, full);
        told("m00 61;", FAULT, full);
        told("m00 59;m01 41;", 2, full);
        told("m01 41;m00 59;", FAULT, full);
        told("m00 0;m01 100;", 2, full);
        told("m00 100;", FAULT, full);
        told("m01 0;m00 100;", 2, full);
        AskNext x = Checks.with(full, "m00 5;m00 7;");
        due("the last", x.met(0, 0), 7);
        due("the other stays", x.met(0, 1), 40);
    }

    // "a SORT that isn't there ahead of it"
    private void sortAheadOfMet() {
        told("m00 5;", FAULT);
        told("m00 5;s0 0;", FAULT);
        told("s0 0;m00 5;", 2);
        told("s0 0;m01 5;s0 0;", FAULT - 5);
        told("s0 0;s0 0;m01 5;", 3);
        told("m00 5;", 1, "s0 0;");
        told("s0 0;m05 5;", FAULT - 5);
        told("s0 0;m09 5;", FAULT - 5);
    }

    // "else nobody is met"
    private void nobodyIsMet() {
        AskNext x = Checks.with("s0 0;s3 0;m00 60;m01 40;m10 60;m11 39;w50 1 0;w50 2 0;");
        for (int w = 0; w < 2; w++) {
            due("100 together: nobody never", x.chance(0, -1, w), 0);
            due("99 together: nobody once", x.chance(1, -1, w), 1);
            due("none told: nobody", x.chance(7, -1, w), 100);
            due("who knows", x.chance(1, w, w), 60);
            due("who misleads", x.chance(1, 1 - w, w), 39);
            due("none told", x.chance(7, w, w), 0);
        }
        due("no answer below nobody", x.chance(0, -2, 0), -1);
        due("no answer behind the last world", x.chance(0, 2, 0), -1);
    }

    private void answersOfFiveWorlds() {
        AskNext x = Checks.with("w20 1 0;w20 2 0;w20 3 0;w20 4 0;w20 5 0;s0 0;s3 0;s1 4;", "m00 10;m01 20;m02 30;m10 7;");
        for (int w = 0; w < 5; w++) {
            for (int a = -1; a < 5; a++) {
                int known = a == w ? 10 : 0;
                int misled = a == (w + 1) % 5 ? 20 : 0;
                int thought = a == 4 ? 30 : 0;
                due("at 0 " + a + " " + w, x.chance(0, a, w), a == -1 ? 40 : known + misled + thought);
                due("at 1 " + a + " " + w, x.chance(1, a, w), a == -1 ? 93 : a == w ? 7 : 0);
            }
        }
        due("a sixth", x.chance(0, 5, 0), -1);
    }

    // "the least MINUTES by ROADS that aren't SHUT in it (NONE: 99999)"
    private void way() {
        AskNext x = Checks.with("r01 3;r12 3;r02 7;r02 6;w50 2 0;w30 2 1;w10 2 9;w10 2 13;");
        due("three and three, as a road of six", x.way(0, 0), 6);
        due("one of them shut", x.way(1, 0), 6);
        due("and that of six shut", x.way(2, 0), 7);
        due("all of them shut", x.way(3, 0), NONE);
        due("there", x.way(3, 2), 0);
        due("from the other side", x.way(0, 1), 3);
        due("no road goes there", x.way(0, 3), NONE);
        AskNext line = Checks.with("r10 60;r21 60;r32 60;r43 60;r54 60;r65 60;r76 60;w50 7 0;w50 7 64;");
        for (int c = 0; c < 8; c++) {
            due("from " + c, line.way(0, c), 60 * (7 - c));
            due("the last shut, from " + c, line.way(1, c), c == 7 ? 0 : NONE);
        }
    }

    // "NEXT on it: the ROAD of the least number that begins such a way"; "-4: NONE, one is there"
    private void next() {
        AskNext x = Checks.with("r30 9;r12 3;r02 6;r01 3;r01 3;w40 2 0;w30 2 4;w20 2 12;w10 2 28;");
        due("of several the least, though it has fewer roads", x.next(0, 0), 2);
        due("that one shut", x.next(1, 0), 3);
        due("and the next", x.next(2, 0), 4);
        due("and the next: none", x.next(3, 0), -4);
        due("one that is told the other way round", x.next(0, 3), 0);
        due("there", x.next(0, 2), -4);
        due("none", x.next(0, 7), -4);
        AskNext longer = Checks.with("r02 7;r01 3;r12 3;w100 2 0;");
        due("the least number begins a longer way", longer.next(0, 0), 1);
    }

    // "START is a CROSSING (0 at first)"
    private void start() {
        due("0 at first", new AskNext().count(4), 0);
        due("0 at first", new AskNext().set(0, 7), 0);
        due("as told", Checks.with("b7;").count(4), 7);
        due("the last of several", Checks.with("b7;b3;").count(4), 3);
        told("b8;", FAULT);
    }

    // "what an ASKING costs (0 .. 30 minutes; 2 at first)"
    private void asking() {
        told("a0;", 1);
        told("a30;", 1);
        told("a31;", FAULT);
        AskNext x = new AskNext();
        due("2 at first", x.set(1, 30), 2);
        due("31", x.set(1, 31), -1);
        due("below 0", x.set(1, -1), -1);
        due("30 stays", x.set(1, 0), 30);
        due("0", x.set(1, 0), 0);
        due("as told", Checks.with("a30;").set(1, 1), 30);
    }

    // "NUMBERS have 1 to 5 digits, no 0 ahead of another"
    private void numbers() {
        String[] forms = {"r01 N;", "wN 1 0;", "w1 1 N;", "s0 N;", "m00 N;", "aN;"};
        for (String form : forms) {
            int at = form.indexOf('N');
            for (String number : new String[] {"", "-1", "+1", " 1", "x"}) {
                told(form.replace("N", number), -1000 - at, "s0 0;");
            }
            for (String number : new String[] {"00", "01", "012345", "1x", "1-", "0.5"}) {
                told(form.replace("N", number), -1001 - at, "s0 0;");
            }
            boolean isShut = form.equals("w1 1 N;");
            told(form.replace("N", "1"), 1, "s0 0;");
            told(form.replace("N", "12345"), isShut ? 1 : FAULT, "s0 0;");
            told(form.replace("N", "99999"), FAULT, "s0 0;");
            told(form.replace("N", "123456"), -1005 - at, "s0 0;");
            told(form.replace("N", "100000"), -1005 - at, "s0 0;");
            boolean isFromOne = form.startsWith("r") || form.startsWith("wN");
            told(form.replace("N", "0") + "b1;", isFromOne ? FAULT : 2, "s0 0;");
        }
        for (String form : new String[] {"rN1 1;", "r0N 1;", "w1 N 0;", "sN 0;", "mN0 0;", "m0N 0;", "bN;"}) {
            int at = form.indexOf('N');
            // a digit behind it takes its place, if it is missing, and is one too many, if it is told twice
            int later = form.charAt(at + 1) == '0' || form.charAt(at + 1) == '1' ? 1 : 0;
            told(form.replace("N", ""), -1000 - at - later, "s0 0;");
            told(form.replace("N", "10"), -1001 - at - later, "s0 0;");
            for (String digit : new String[] {";", " ", "x", "/", ":", "-"}) {
                told(form.replace("N", digit), -1000 - at, "s0 0;");
            }
        }
    }

    // "the place of the first byte with which no LAND can go on (the size, if it ends too early)"
    private void endsTooEarly() {
        due("as many bytes as a row can have", LONGEST.length(), 100);
        int statements = 0;
        for (int size = 0; size <= 100; size++) {
            String text = LONGEST.substring(0, size);
            if (text.endsWith(";")) {
                statements++;
                due("the first " + size, Checks.tell(new AskNext(), text), statements);
            } else {
                due("the first " + size, Checks.tell(new AskNext(), text), -1000 - size);
            }
        }
        due("fifteen", statements, 15);
        String thirtyThree = "b0;".repeat(33);
        due("thirty-three statements", Checks.tell(new AskNext(), thirtyThree), 33);
        due("ends too early at 100", Checks.tell(new AskNext(), thirtyThree + "b"), -1100);
        due("the last byte", Checks.tell(new AskNext(), thirtyThree + ";"), -1099);
    }

    private void firstWrongByte() {
        for (int at = 0; at < 100; at++) {
            for (char wrong : new char[] {'x', 0, 127, 128, 255, 'R', ','}) {
                StringBuilder text = new StringBuilder(LONGEST);
                text.setCharAt(at, wrong);
                due("a wrong byte at " + at, Checks.tell(new AskNext(), text.toString()), -1000 - at);
            }
        }
        for (char letter = 0; letter < 256; letter++) {
            boolean is = letter == 'a' || letter == 'b' || letter == 'm' || letter == 'r' || letter == 's' || letter == 'w';
            due("a letter alone", Checks.tell(new AskNext(), String.valueOf(letter)), is ? -1001 : -1000);
        }
        due("only the first is told", Checks.tell(new AskNext(), "b0;bx;x"), -1004);
    }

    // "At least one STATEMENT"
    private void oneStatementAtLeast() {
        told("", -1000);
        told("b1;", 1);
        told(";", -1000);
    }

    // "kind 1 (of any place) goes ahead of kind 2"
    private void kindOneAheadOfKindTwo() {
        told("b8;", FAULT);
        told("b8;x", -1003);
        told("b8;b", -1004);
        told("r00 0;r01 61;w0 9 0;s9 0;m99 0;b9;a31", -1037);
        told("r00 0;r01 61;w0 9 0;s9 0;m99 0;b9;a31;", FAULT);
    }

    // "STATEMENTS are tried one behind the other .. and the first that can't be done so is told"
    private void firstThatCannotBeDone() {
        told("b7;b8;a31;", FAULT - 3);
        told("b7;a31;b8;", FAULT - 3);
        told("b0;".repeat(32) + "b8;", FAULT - 96);
        told("b1;".repeat(33), 33);
        told("w60 0 0;w50 0 0;w40 0 0;", FAULT - 8);
        told("w60 0 0;w40 0 0;w1 0 0;", FAULT - 16);
    }

    // "Without FAULT all of it comes; with one nothing."
    private void withAFaultNothingComes() {
        String[] before = {"r01 5;w40 1 0;s0 0;m00 50;b1;a7;"};
        for (String statement : new String[] {"r12 6;", "w60 2 0;", "s4 9;", "m00 51;", "m10 1;", "b2;", "a8;"}) {
            told(statement, 1, before);
            told(statement + "b8;", FAULT - statement.length(), before);
            told(statement + "b", -1001 - statement.length(), before);
        }
    }

    private void without() {
        AskNext x = Checks.with("w60 1 0;w40 2 0;s1 1;s0 0;m00 50;m01 50;");
        x.answer(0, 1);
        due("thought of", x.think(0, 0), 3);
        due("a fault", Checks.tell(x, "b8;"), FAULT);
        due("the thought stays", x.think(0, 1), 7);
        due("no fault", Checks.tell(x, "b7;"), 1);
        due("the thought is chances", x.think(0, 1), 5);
        due("as they are", x.worth(7), -20000);
    }
}
