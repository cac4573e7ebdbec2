/** Each promise by itself: ordinary answers, the edges that the document names, and refusals in their order. */
public final class PromiseTest {
    private static final int NONE = -1, UNKNOWN = -1000000001, OUTSIDE = -1000000002, NOT = -1000000003, FULL = -1000000004;

    /** Members 0 (2 beats of breath, 2 of rest, 20 words), 1 (3, 1, 9), 2 (1, 3, 50). */
    private static final String THREE = "member 2 2 20; member 3 1 9; member 1 3 50; law stopped 6 2; cough 10;";

    private static SilenceFines three() {
        return Due.chamber(THREE, 3);
    }

    private static void is(String call, long got, long want) {
        Due.is(call, got, want);
    }

    private static void newObject() {
        SilenceFines x = new SilenceFines();
        int[] told = {0, 0, 5, 1, 0, 0, 0, 0, 0, 0, 0, 0};
        for (int what = 0; what < told.length; what++) {
            is("1 told(" + what + ")", x.told(what), told[what]);
        }
        is("1 member(0, 0)", x.member(0, 0), UNKNOWN);
        is("1 fault()", x.fault(), NONE);
        is("1 seed(0)", x.seed(0), 0);
        is("1 goBack(0)", x.goBack(0), NOT);
        is("1 goBack(1)", x.goBack(1), NOT);
        is("1 beat(1)", x.beat(1), UNKNOWN);
    }

    private static void feed() {
        SilenceFines x = new SilenceFines();
        is("2 feed(0, 0)", x.feed(0, 0), OUTSIDE);
        is("2 feed(9, 0)", x.feed(9, 0), OUTSIDE);
        is("2 feed(-1, 0)", x.feed(-1, 0), OUTSIDE);
        is("2 told(5)", x.told(5), 0);
        is("2 feed the lowest byte", x.feed(1, Due.bytes("membe; c")), 1);
        is("2 feed the lowest four", x.feed(4, Due.bytes("law ough")), 5);
        is("2 feed eight", x.feed(8, Due.bytes(" 33;    ")), 13);
        is("2 chamber()", x.chamber(), 0);
        is("2 told(4)", x.told(4), 33);
        for (int i = 1; i <= 49; i++) {
            is("2 feed(8) to " + 8 * i, x.feed(8, Due.bytes("        ")), 8 * i);
        }
        is("2 feed(7) to 399", x.feed(7, Due.bytes("       ")), 399);
        is("2 feed(2) is too much", x.feed(2, Due.bytes(";;")), FULL);
        is("2 feed(8) is too much", x.feed(8, Due.bytes(";;;;;;;;")), FULL);
        is("2 feed(9) of a full text", x.feed(9, 0), OUTSIDE);
        is("2 told(5) at 399", x.told(5), 399);
        is("2 feed(1) to 400", x.feed(1, Due.bytes(" ")), 400);
        is("2 feed(1) is too much", x.feed(1, Due.bytes(" ")), FULL);
        is("2 chamber() of 400 blanks", x.chamber(), 0);
        is("2 feed anew", x.feed(3, 0), 3);
    }

    private static void chamber() {
        SilenceFines x = three();
        is("3 law", x.told(1) * 10000 + x.told(2) * 100 + x.told(3), 602);
        is("3 told(5)", x.told(5), 0);
        x.beat(3);
        x.beat(0);
        x.seed(77);
        x.plan(1);
        x.record(0, 1);
        x.keep(0);
        x.keep(1);
        SilenceFines same = three();
        same.beat(3);
        same.beat(0);
        same.plan(1);
        same.record(0, 1);
        Due.feed(x, "member 1 1 1; law all 9 9; cough 9");
        is("3 chamber() with a fault", x.chamber(), -11);
        Due.same("3 a fault changes nothing", x, same);
        is("3 goBack(0) behind a fault", x.goBack(0), 1);
        is("3 goBack(1) behind a fault", x.goBack(1), 1);
        Due.feed(x, "cough 100; law began 99 0; member4 3 0;member 1 1 099;");
        is("3 chamber()", x.chamber(), 2);
        int[] told = {2, 1, 99, 0, 100, 0, 0, 0, 0, 0, 0, 0};
        for (int what = 0; what < told.length; what++) {
            is("3 told(" + what + ")", x.told(what), told[what]);
        }
        int[][] members = {{4, 4, 0, 0, 0, 0, 3, 0}, {1, 1, 99, 0, 1, 1, 1, 0}};
        for (int m = 0; m < 2; m++) {
            for (int what = 0; what < 8; what++) {
                is("3 member(" + m + ", " + what + ")", x.member(m, what), members[m][what]);
            }
        }
        is("3 an image is gone", x.goBack(0), NOT);
        is("3 an image is gone", x.goBack(1), NOT);
        is("3 the seed stays", x.seed(0), 77);
        is("3 an empty text", x.chamber(), 0);
        is("3 told(0)", x.told(0), 0);
        is("3 law untold", x.told(1) * 10000 + x.told(2) * 100 + x.told(3), 501);
        is("3 cough untold", x.told(4), 0);
        chamberForgets();
    }

    /** Nothing of the sitting before comes into the next one: not who stopped, nor what is not paid. */
    private static void chamberForgets() {
        SilenceFines x = Due.chamber("member 4 1 9; law began 7 1;", 1);
        x.beat(1);
        x.beat(0);
        x.beat(0);
        Due.feed(x, "member 4 1 9; law stopped 7 1;");
        is("3 chamber()", x.chamber(), 1);
        x.beat(0);
        is("3 nobody stopped yet", x.member(0, 3), 0);
        x.beat(1);
        is("3 nothing is unpaid", x.member(0, 3), 0);
    }

    private static void text(String text, int answer, int place) {
        SilenceFines x = new SilenceFines();
        Due.feed(x, text);
        is("4 chamber() of '" + text + "'", x.chamber(), answer);
        is("4 fault() of '" + text + "'", x.fault(), place);
        is("4 told(5) behind '" + text + "'", x.told(5), 0);
    }

    private static void fault() {
        text("", 0, NONE);
        text("    ", 0, NONE);
        text("member1 1 0;", 1, NONE);
        text(" member 4 3 99 ; law all99 99;cough100;", 1, NONE);
        text("law began 0 0;", 0, NONE);
        text("cough 000;", 0, NONE);
        text("member 001 003 099;", 1, NONE);
        text("member 1 1 1;member 1 1 1;member 1 1 1;member 1 1 1;", 4, NONE);
        text(";", -11, 0);
        text("member 1 1 1;;", -11, 13);
        text("5", -11, 0);
        text("x", -11, 0);
        text(" Member 1 1 1;", -11, 1);
        text("membe 1 1 1;", -11, 0);
        text("members 1 1 1;", -11, 0);
        text("nember 1 1 1;", -11, 0);
        text("memben 1 1 1;", -11, 0);
        text("saw all 1 1;", -11, 0);
        text("dough 1;", -11, 0);
        text("law atopped 1 1;", -11, 4);
        text("law cegan 1 1;", -11, 4);
        text("law ill 1 1;", -11, 4);
        text("memberlaw", -11, 0);
        text("stopped", -11, 0);
        text("member", -11, 6);
        text("member ", -11, 7);
        text("member ;", -11, 7);
        text("member x", -11, 7);
        text("member 1", -11, 8);
        text("member 1 1 ;", -11, 11);
        text("member 1 1 1", -11, 12);
        text("member 1 1 1  ", -11, 14);
        text("member 1 1 1 1;", -11, 13);
        text("member 1 1 1 1000;", -11, 13);
        text("member 1 1 1 member", -11, 13);
        text("member\t1 1 1;", -11, 6);
        text("member 1 1 1;\u00a0", -11, 13);
        text("member -1 1 1;", -11, 7);
        text("member 0 1 1;", -12, 7);
        text("member 5 1 1;", -12, 7);
        text("member 1 0 1;", -12, 9);
        text("member 1 4 1;", -12, 9);
        text("member 1 1 100;", -12, 11);
        text("member 11 1;", -12, 7);
        text("member 1 1 0001;", -12, 11);
        text("member 1 1 10000000000000000000001;", -12, 11);
        text("member 1 1 4294967297;", -12, 11);
        text("member 5", -12, 7);
        text("member 5 x", -12, 7);
        text("member 1 1 1;member 1 1 1;member 1 1 1;member 1 1 1; member", -13, 53);
        text("member 1 1 1;member 1 1 1;member 1 1 1;member 1 1 1;members", -11, 52);
        text("law", -11, 3);
        text("law 1 1;", -11, 4);
        text("law law 1 1;", -11, 4);
        text("lawstopped 1 1;", -11, 0);
        text("law stoppe 1 1;", -11, 4);
        text("law stoppedd 1 1;", -11, 4);
        text("law al 1 1;", -11, 4);
        text("law all 1;", -11, 9);
        text("law all 1 1 1;", -11, 12);
        text("law all 100 1;", -12, 8);
        text("law all 99 100;", -12, 11);
        text("law all 1 1;law", -13, 12);
        text("law all 1 1;laws", -11, 12);
        text("law all 1 1; law all 100 1;", -13, 13);
        text("cough;", -11, 5);
        text("cough 1 1;", -11, 8);
        text("cough 101;", -12, 6);
        text("cough 0001;", -12, 6);
        text("cough 1;cough 101;", -13, 8);
        SilenceFines x = new SilenceFines();
        Due.feed(x, "cough 101;");
        x.chamber();
        Due.feed(x, "cou");
        is("4 fault() of the latest chamber()", x.fault(), 6);
        x.chamber();
        is("4 fault() of a word cut off", x.fault(), 0);
        x.chamber();
        is("4 fault() behind a sound chamber()", x.fault(), NONE);
    }

    private static void told() {
        SilenceFines x = three();
        is("5 told(-1)", x.told(-1), OUTSIDE);
        is("5 told(12)", x.told(12), OUTSIDE);
        x.beat(0);
        is("5 silences ahead of any speaker", x.told(9), 1);
        x.beat(5);
        is("5 who spoke", x.told(8), 5);
        is("5 no silence now", x.told(9), 0);
        x.beat(4);
        x.beat(0);
        x.beat(0);
        is("5 nobody spoke", x.told(8), 0);
        is("5 silences", x.told(9), 3);
        is("5 THE BEAT", x.told(6), 5);
        is("5 SAID", x.told(7), 1);
        x.law(2, 8, 9);
        is("5 KIND", x.told(1), 2);
        is("5 C", x.told(2), 8);
        is("5 O", x.told(3), 9);
        is("5 Q", x.told(4), 10);
        x.feed(3, 0);
        is("5 bytes", x.told(5), 3);
        x.plan(0);
        x.plan(7);
        is("5 beats of the PLAN", x.told(10), 2);
        x.record(0, 1);
        is("5 SPEECHES", x.told(11), 1);
    }

    private static void member() {
        SilenceFines x = three();
        is("6 member(-1, 0)", x.member(-1, 0), UNKNOWN);
        is("6 member(3, 0)", x.member(3, 0), UNKNOWN);
        is("6 member(3, 8), UNKNOWN first", x.member(3, 8), UNKNOWN);
        is("6 member(0, 8)", x.member(0, 8), OUTSIDE);
        is("6 member(0, -1)", x.member(0, -1), OUTSIDE);
        x.beat(7);
        x.beat(3);
        x.beat(2);
        int[][] due = {{2, 0, 18, 0, 0, 0, 2, 1}, {3, 0, 6, 4, 0, 0, 1, 0}, {1, 0, 49, 2, 0, 0, 3, 2}};
        for (int m = 0; m < 3; m++) {
            for (int what = 0; what < 8; what++) {
                is("6 member(" + m + ", " + what + ")", x.member(m, what), due[m][what]);
            }
        }
        SilenceFines y = three();
        y.theme(1, 2);
        is("6 ALONE by WORDS LEFT", y.member(1, 5), 2);
        is("6 ALONE by AIR", y.member(0, 5), 2);
        y.theme(1, 0);
        is("6 CAN SPEAK without WORDS LEFT", y.member(1, 4), 0);
        is("6 CAN SPEAK", y.member(0, 4), 1);
    }

    private static void beat() {
        SilenceFines x = three();
        is("7 beat(8)", x.beat(8), UNKNOWN);
        is("7 beat(-1)", x.beat(-1), UNKNOWN);
        is("7 beat(-2147483648)", x.beat(-2147483648), UNKNOWN);
        is("7 nothing went by", x.told(6), 0);
        is("7 beat(7)", x.beat(7), 7);
        is("7 an overlap: not the least", x.member(0, 3), 0);
        is("7 an overlap: each other", x.member(1, 3) * 10 + x.member(2, 3), 22);
        is("7 beat(5): 2 has no AIR", x.beat(5), 1);
        is("7 no overlap then", x.member(2, 3), 2);
        is("7 2 rested though it was to speak", x.member(2, 7), 1);
        is("7 beat(0)", x.beat(0), 0);
        is("7 beat(0)", x.beat(0), 0);
        is("7 who stopped pays", x.member(0, 3), 12);
        is("7 AIR comes back behind R beats", x.member(0, 1), 1);
        is("7 RESTS are counted anew", x.member(0, 7), 0);
        is("7 AIR comes back", x.member(2, 1), 1);
        is("7 none is counted with AIR as BREATH", x.member(2, 7), 0);
        is("7 none is counted with AIR as BREATH", x.member(1, 7), 0);
        x.beat(0);
        is("7 one beat of RESTS", x.member(0, 7), 1);
        x.beat(1);
        is("7 speaking ends RESTS", x.member(0, 7), 0);
        is("7 no RESTS counted at full AIR", x.member(2, 7), 0);
        beatStopped();
        beatBegan();
        beatAll();
    }

    private static void beatStopped() {
        SilenceFines x = three();
        x.beat(0);
        is("7 nobody stopped yet", x.member(0, 3) + x.member(1, 3) + x.member(2, 3), 0);
        x.beat(6);
        x.beat(0);
        is("7 of several who stopped the least pays", x.member(1, 3) * 100 + x.member(2, 3), 602);
        x.beat(0);
        is("7 it pays on", x.member(1, 3), 12);
        x.beat(1);
        x.law(0, 1, 0);
        x.beat(0);
        is("7 another stopped", x.member(0, 3) * 100 + x.member(1, 3), 112);
    }

    private static void beatBegan() {
        SilenceFines x = Due.chamber("member 4 1 99;member 4 1 99;law began 3 1;", 2);
        x.beat(0);
        x.beat(0);
        is("7 began: not at once", x.member(0, 3) + x.member(1, 3), 0);
        x.beat(3);
        is("7 began: the least pays, the other for the OVERLAP", x.member(0, 3) * 10 + x.member(1, 3), 61);
        x.beat(2);
        is("7 began: paid", x.member(1, 3), 1);
        x.beat(0);
        x.law(2, 10, 0);
        x.beat(0);
        is("7 all: the old one is not paid yet", x.member(0, 3) * 100 + x.member(1, 3), 1106);
        x.law(0, 7, 0);
        x.beat(0);
        is("7 stopped: 1 stopped", x.member(0, 3) * 100 + x.member(1, 3), 1113);
        x.law(0, 20, 0);
        x.beat(1);
        is("7 by C of then, one beat was not paid", x.member(0, 3) * 100 + x.member(1, 3), 3113);
        x.beat(2);
        is("7 all is paid", x.member(0, 3) * 100 + x.member(1, 3), 3113);
    }

    private static void beatAll() {
        SilenceFines x = Due.chamber("member 4 1 9;member 4 1 9;member 1 1 9;law all 11 0;", 3);
        x.beat(0);
        is("7 all: each a third, cut", x.member(0, 3) * 100 + x.member(1, 3) * 10 + x.member(2, 3), 333);
        SilenceFines alone = Due.chamber("member 4 1 9;law all 11 0;", 1);
        alone.beat(0);
        is("7 all: one alone pays all of it", alone.member(0, 3), 11);
        SilenceFines nobody = new SilenceFines();
        nobody.law(2, 50, 0);
        is("7 all: no MEMBERS", nobody.beat(0), 0);
        is("7 THE BEAT", nobody.told(6), 1);
        is("7 beat(1) without MEMBERS", nobody.beat(1), UNKNOWN);
    }

    private static void theme() {
        SilenceFines x = three();
        is("8 theme(3, 0)", x.theme(3, 0), UNKNOWN);
        is("8 theme(-1, 100)", x.theme(-1, 100), UNKNOWN);
        is("8 theme(0, 100)", x.theme(0, 100), OUTSIDE);
        is("8 theme(0, -1)", x.theme(0, -1), OUTSIDE);
        is("8 theme(0, 99)", x.theme(0, 99), 20);
        is("8 theme(0, 0)", x.theme(0, 0), 99);
        is("8 beat(1)", x.beat(1), 0);
        is("8 theme(0, 1)", x.theme(0, 1), 0);
        is("8 beat(1)", x.beat(1), 1);
        is("8 beat(1)", x.beat(1), 0);
        is("8 theme(1, 5)", x.theme(1, 5), 9);
        is("8 AIR is as it was", x.member(1, 1), 3);
    }

    private static void law() {
        SilenceFines x = new SilenceFines();
        int[][] outside = {{-1, 0, 0}, {3, 0, 0}, {0, -1, 0}, {0, 100, 0}, {0, 0, -1}, {0, 0, 100}};
        for (int[] o : outside) {
            is("9 law(" + o[0] + ", " + o[1] + ", " + o[2] + ")", x.law(o[0], o[1], o[2]), OUTSIDE);
        }
        is("9 as it was", x.told(1) * 10000 + x.told(2) * 100 + x.told(3), 501);
        is("9 law(1, 0, 99)", x.law(1, 0, 99), 0);
        is("9 law", x.told(1) * 10000 + x.told(2) * 100 + x.told(3), 10099);
        is("9 law(2, 99, 0)", x.law(2, 99, 0), 1);
        is("9 law", x.told(1) * 10000 + x.told(2) * 100 + x.told(3), 29900);
        is("9 law(0, 1, 1)", x.law(0, 1, 1), 2);
    }

    private static void drift() {
        SilenceFines nobody = new SilenceFines();
        is("10 drift(1) without MEMBERS", nobody.drift(1), NOT);
        is("10 drift(0), OUTSIDE first", nobody.drift(0), OUTSIDE);
        is("10 drift(1000), OUTSIDE first", nobody.drift(1000), OUTSIDE);
        is("10 no beat went by", nobody.told(6), 0);
        SilenceFines x = three();
        is("10 drift(999)", x.drift(999) >= 0 ? 1 : 0, 1);
        is("10 THE BEAT", x.told(6), 999);
        SilenceFines y = three();
        y.seed(5);
        y.theme(1, 0);
        y.theme(0, 1);
        is("10 drift(30)", y.drift(30), 4);
        is("10 OWED", y.member(0, 3), 12);
        drawByDraw();
        SilenceFines all = Due.chamber("member 4 1 99; cough 100;", 1);
        all.seed(23870);
        all.beat(1);
        is("10 a cough at a hundred", all.drift(1), 0);
        SilenceFines none = Due.chamber("member 4 1 99; cough 0;", 1);
        none.beat(1);
        is("10 no cough at 0, till AIR ends", none.drift(3), 3);
        is("10 a DRAW each all the same", none.seed(0), afterDraws(0, 3));
        is("10 out of AIR, no DRAW", none.drift(1), 0);
        is("10 THE SEED is as it was", none.seed(0), 0);
    }

    private static int afterDraws(long seed, int draws) {
        for (int i = 0; i < draws; i++) {
            seed = (seed * 1103515245L + 12345L) % 2147483648L;
        }
        return (int) seed;
    }

    /** Members in order draw: of 100 to go on, of 8 to begin, none without AIR or words. */
    private static void drawByDraw() {
        int[] seen = new int[3];
        for (int seed = 0; seed < 3000; seed += 7) {
            SilenceFines x = Due.chamber("member 2 2 9;member 3 1 0;member 3 1 9;member 3 1 9;cough 50;", 4);
            x.beat(9);
            x.seed(seed);
            int first = afterDraws(seed, 1) / 65536 % 100;
            int second = afterDraws(seed, 2) / 65536 % 8;
            int third = afterDraws(seed, 3) / 65536 % 100;
            int set = (first < 50 ? 0 : 1) + (second == 0 ? 4 : 0) + (third < 50 ? 0 : 8);
            is("10 drift(1) by the seed " + seed, x.drift(1), set == 0 ? 0 : 1);
            is("10 told(8) by the seed " + seed, x.told(8), set);
            is("10 the seed behind " + seed, x.seed(0), afterDraws(seed, 3));
            seen[0] += set & 1;
            seen[1] += set >> 2 & 1;
            seen[2] += first == 50 || third == 50 ? 1 : 0;
        }
        is("10 all kinds of draws were seen", Math.min(seen[0], Math.min(seen[1], seen[2])) > 0 ? 1 : 0, 1);
    }

    private static void plan() {
        SilenceFines x = three();
        is("11 plan(8)", x.plan(8), UNKNOWN);
        is("11 plan(-1)", x.plan(-1), UNKNOWN);
        for (int i = 1; i <= 30; i++) {
            is("11 plan(" + i % 8 + ")", x.plan(i % 8), i);
        }
        is("11 plan(0)", x.plan(0), FULL);
        is("11 plan(8), UNKNOWN first", x.plan(8), UNKNOWN);
        is("11 told(10)", x.told(10), 30);
        is("11 no beat went by", x.told(6), 0);
        SilenceFines nobody = new SilenceFines();
        is("11 plan(0) without MEMBERS", nobody.plan(0), 1);
        is("11 plan(1) without MEMBERS", nobody.plan(1), UNKNOWN);
    }

    private static void drop() {
        SilenceFines x = three();
        is("12 drop() of none", x.drop(), 0);
        x.plan(1);
        x.plan(2);
        is("12 drop()", x.drop(), 2);
        is("12 told(10)", x.told(10), 0);
        is("12 drop() again", x.drop(), 0);
        is("12 plan(4)", x.plan(4), 1);
        is("12 the new PLAN is run", x.run(NONE, 2), 1);
        is("12 the new PLAN is run", x.run(NONE, 0), 0);
    }

    private static void planOf(SilenceFines x, int... sets) {
        for (int set : sets) {
            x.plan(set);
        }
    }

    private static void run() {
        SilenceFines x = three();
        is("13 run(-1, 3) of no PLAN", x.run(NONE, 3), NONE);
        is("13 run(-1, 0) of no PLAN", x.run(NONE, 0), 0);
        planOf(x, 1, 1, 1, 2, 3, 0, 4);
        int[] due = {2, 1, 5, 2};
        for (int round = 0; round < 2; round++) {
            for (int what = 0; what < 4; what++) {
                is("13 run(-1, " + what + ")", x.run(NONE, what), due[what]);
            }
            is("13 run(0, 0)", x.run(0, 0), 12);
            is("13 run(1, 77)", x.run(1, 77), 2);
            is("13 run(2, -5)", x.run(2, -5), 0);
        }
        is("13 run(-1, 4)", x.run(NONE, 4), OUTSIDE);
        is("13 run(-1, -1)", x.run(NONE, -1), OUTSIDE);
        is("13 run(3, 0)", x.run(3, 0), UNKNOWN);
        is("13 run(-2, 9)", x.run(-2, 9), UNKNOWN);
        Due.same("13 run changes nothing", x, withPlan(three(), 1, 1, 1, 2, 3, 0, 4));
        x.beat(1);
        x.beat(0);
        is("13 tried from now: what is OWED more", x.run(0, 0), 18);
        is("13 tried from now: beats of SILENCE", x.run(NONE, 0), 3);
        is("13 tried from now: GAP", x.run(NONE, 3), 1);
        x.drop();
        planOf(x, 4, 2);
        is("13 a PLAN without a GAP", x.run(NONE, 3), NONE);
        SilenceFines y = Due.chamber("member 4 1 9;member 4 1 9;law began 3 1;", 2);
        y.beat(0);
        planOf(y, 0, 2);
        is("13 what is not paid yet is paid in the RUN", y.run(1, 0), 6);
        is("13 GAP at the first beat", y.run(NONE, 3), 0);
    }

    private static SilenceFines withPlan(SilenceFines x, int... sets) {
        planOf(x, sets);
        return x;
    }

    private static void follow() {
        SilenceFines x = withPlan(three(), 1, 1, 1, 2, 3, 0, 4);
        SilenceFines y = withPlan(three(), 1, 1, 1, 2, 3, 0, 4);
        is("14 follow()", x.follow(), 2);
        for (int set : new int[] {1, 1, 1, 2, 3, 0, 4}) {
            y.beat(set);
        }
        Due.same("14 follow is beat by beat, and the PLAN stays", x, y);
        is("14 the PLAN is the same", x.run(NONE, 0), y.run(NONE, 0));
        is("14 follow() again", x.follow(), 3);
        is("14 THE BEAT", x.told(6), 14);
        is("14 follow() without a PLAN", new SilenceFines().follow(), 0);
    }

    private static void ever() {
        SilenceFines x = three();
        int[] due = {0, 0, 0, 0, 0, 0, 0, 1};
        for (int set = 0; set < 8; set++) {
            is("15 ever(" + set + ")", x.ever(set), due[set]);
        }
        is("15 ever(8)", x.ever(8), UNKNOWN);
        is("15 ever(-1)", x.ever(-1), UNKNOWN);
        is("15 ever(0) without MEMBERS", new SilenceFines().ever(0), 0);
        is("15 ever(1) without MEMBERS", new SilenceFines().ever(1), UNKNOWN);
        x.beat(7);
        x.theme(0, 0);
        is("15 from full AIR, WORDS not looked at", x.ever(7), 1);
        SilenceFines y = Due.chamber("member 4 1 1;member 1 1 1;member 4 2 1;member 4 3 1;", 4);
        is("15 two of R 1", y.ever(3), 1);
        is("15 R 1 and R 2", y.ever(5), 0);
        is("15 R 1, R 2 and R 3", y.ever(13), 1);
    }

    /** Every chamber of MEMBERS (in rising order, as seats do not matter) against the model's search. */
    private static void everyChamber() {
        for (int a = 0; a < 12; a++) {
            for (int b = a; b < 12; b++) {
                for (int c = b; c < 12; c++) {
                    StringBuilder text = new StringBuilder();
                    for (int m : new int[] {a, b, c, (a * 7 + b * 5 + c) % 12}) {
                        text.append("member ").append(1 + m / 3).append(' ').append(1 + m % 3).append(" 0;");
                    }
                    SilenceFines x = Due.chamber(text.toString(), 4);
                    Model y = new Model();
                    for (char sign : text.toString().toCharArray()) {
                        y.feed(1, sign);
                    }
                    y.chamber();
                    for (int set = 0; set < 16; set++) {
                        is("15 ever(" + set + ") of " + text, x.ever(set), y.ever(set));
                    }
                    is("16 voices() of " + text, x.voices(), y.voices());
                }
            }
        }
    }

    private static void voices() {
        is("16 voices() without MEMBERS", new SilenceFines().voices(), NONE);
        is("16 voices() of one", Due.chamber("member 4 1 99;", 1).voices(), NONE);
        is("16 voices() of three", three().voices(), 7);
        is("16 the fewest, not the least SET",
            Due.chamber("member 1 2 1;member 1 2 1;member 1 1 1;member 1 1 1;", 4).voices(), 12);
        is("16 of like ones the least",
            Due.chamber("member 1 1 1;member 1 3 1;member 1 1 1;member 1 1 1;", 4).voices(), 5);
        is("16 all four", Due.chamber("member 1 3 1;member 1 3 1;member 1 3 1;member 1 3 1;", 4).voices(), 15);
        is("16 none of three", Due.chamber("member 4 3 1;member 4 2 1;member 4 2 1;", 3).voices(), NONE);
        SilenceFines x = Due.chamber("member 1 1 0;member 1 1 0;", 2);
        x.beat(1);
        is("16 from full AIR, WORDS not looked at", x.voices(), 3);
    }

    private static void answer() {
        SilenceFines x = three();
        is("17 answer(3, 0)", x.answer(3, 0), UNKNOWN);
        is("17 answer(-1, 2), UNKNOWN first", x.answer(-1, 2), UNKNOWN);
        is("17 answer(0, 2)", x.answer(0, 2), OUTSIDE);
        is("17 answer(0, -1)", x.answer(0, -1), OUTSIDE);
        is("17 answer(0, 0) of no PLAN", x.answer(0, 0), 0);
        is("17 answer(0, 1) of no PLAN", x.answer(0, 1), 0);
        // All share a SILENCE, so to speak in each silent beat saves a third of 6.
        x.law(2, 6, 4);
        planOf(x, 0, 1, 2, 0, 4);
        is("17 answer(1, 0)", x.answer(1, 0), 0);
        is("17 answer(1, 1), its own bit not looked at", x.answer(1, 1), 13);
        is("17 answer(2, 0), by its breath", x.answer(2, 0), 2);
        is("17 answer(2, 1), by its breath", x.answer(2, 1), 17);
        is("17 answer(0, 0)", x.answer(0, 0), 2);
        is("17 answer(0, 1), the least SET", x.answer(0, 1), 3);
        x.theme(2, 1);
        is("17 answer(2, 0) with one word", x.answer(2, 0), 4);
        is("17 answer(2, 1), the least SET", x.answer(2, 1), 1);
        x.theme(2, 50);
        SilenceFines same = withPlan(three(), 0, 1, 2, 0, 4);
        same.law(2, 6, 4);
        Due.same("17 answer changes nothing", x, same);
        answerFewestBeats();
        answerTwelveBeats();
        answerStopped();
    }

    /** To speak at once makes 0 pay 10 for the beat ahead: three beats then save no more than the last one alone. */
    private static void answerFewestBeats() {
        SilenceFines x = Due.chamber("member 3 3 99;member 4 1 99;law began 10 0;", 2);
        x.beat(0);
        x.law(2, 10, 0);
        planOf(x, 0, 0, 0, 2, 0);
        is("17 beat 4 alone or three beats: what 0 OWES more", x.answer(0, 0), 15);
        is("17 the fewest beats, not the least SET", x.answer(0, 1), 16);
    }

    /** What comes behind the twelfth beat of the PLAN is not looked at. */
    private static void answerTwelveBeats() {
        SilenceFines x = Due.chamber("member 4 1 99;member 4 1 99;law all 10 9;", 2);
        for (int i = 0; i < 11; i++) {
            x.plan(2 * ((i + 1) % 2));
        }
        x.plan(0);
        is("17 eleven or twelve: what is OWED more", x.answer(0, 0), 0);
        is("17 twelve beats", x.answer(0, 1), 0xAAA);
        x.plan(0);
        x.plan(0);
        is("17 a thirteenth beat is not looked at", x.answer(0, 0), 0);
        is("17 a thirteenth beat is not looked at", x.answer(0, 1), 0xAAA);
    }

    /** Who stopped pays on, unless another is to stop: speaking once may cost more than it saves. */
    private static void answerStopped() {
        SilenceFines x = Due.chamber("member 2 1 9;member 2 1 9;law stopped 5 1;", 2);
        x.beat(1);
        planOf(x, 0, 2, 0);
        is("17 stopped: what 0 OWES more", x.answer(0, 0), 0);
        is("17 stopped: 0 speaks on", x.answer(0, 1), 1);
        is("17 stopped: what 1 OWES more", x.answer(1, 0), 0);
        is("17 stopped: 1 is silent", x.answer(1, 1), 0);
        SilenceFines y = Due.chamber("member 4 1 9;member 4 1 9;law began 5 1;", 2);
        y.beat(0);
        planOf(y, 1, 0, 1);
        is("17 began: 0 waits for none", y.answer(0, 0), 0);
        is("17 began: 1 lets 0 pay", y.answer(1, 1), 0);
    }

    private static void laws() {
        SilenceFines x = three();
        is("18 laws(-1)", x.laws(-1), OUTSIDE);
        is("18 laws(3)", x.laws(3), OUTSIDE);
        is("18 laws(0) of no PLAN", x.laws(0), 0);
        x.law(0, 10, 2);
        planOf(x, 0, 3, 0, 0);
        is("18 laws(0)", x.laws(0), 22);
        is("18 laws(1): the end is not paid yet", x.laws(1), 12);
        is("18 laws(2): a third each, cut", x.laws(2), 29);
        is("18 the KIND is as it was", x.told(1), 0);
        x.beat(1);
        x.beat(0);
        is("18 what is OWED now is not counted", x.laws(2), 29);
        is("18 who stopped now", x.laws(0), 32);
        x.law(1, 10, 2);
        x.beat(0);
        is("18 what is not paid yet is, by any KIND", x.laws(2), 39);
    }

    private static void premium() {
        SilenceFines x = three();
        int[][] outside = {{-1, 0}, {51, 0}, {1, 2}, {1, -1}};
        for (int[] o : outside) {
            is("19 premium(" + o[0] + ", " + o[1] + ")", x.premium(o[0], o[1]), OUTSIDE);
        }
        is("19 premium(0, 0)", x.premium(0, 0), 0);
        is("19 premium(0, 1)", x.premium(0, 1), 0);
        is("19 premium(1, 0)", x.premium(1, 0), 100000000);
        is("19 premium(7, 0)", x.premium(7, 0), 521703100);
        is("19 premium(50, 0), cut beat by beat", x.premium(50, 0), 994846230);
        is("19 premium(50, 1)", x.premium(50, 1), 5);
        x.law(0, 99, 0);
        is("19 C as it is now", x.premium(7, 1), 51);
        is("19 without a cough", new SilenceFines().premium(50, 0), 0);
        SilenceFines y = Due.chamber("cough 100;law all 99 0;", 0);
        is("19 a cough for sure", y.premium(1, 0), 1000000000);
        is("19 all of C", y.premium(50, 1), 99);
    }

    private static void record() {
        SilenceFines x = new SilenceFines();
        int[][] outside = {{-1, 1}, {10, 1}, {0, 0}, {0, 5}};
        for (int[] o : outside) {
            is("20 record(" + o[0] + ", " + o[1] + ")", x.record(o[0], o[1]), OUTSIDE);
        }
        for (int i = 1; i <= 7; i++) {
            is("20 record", x.record(i % 2 * 9, 1 + i % 4), i);
        }
        is("20 record(0, 1)", x.record(0, 1), FULL);
        is("20 record(10, 1), OUTSIDE first", x.record(10, 1), OUTSIDE);
        is("20 told(11)", x.told(11), 7);
    }

    private static void tear() {
        SilenceFines x = three();
        is("21 tear() of none", x.tear(), 0);
        x.record(0, 4);
        x.record(0, 4);
        is("21 tear()", x.tear(), 2);
        is("21 told(11)", x.told(11), 0);
        is("21 fits()", x.fits(), 1);
        is("21 record(0, 3)", x.record(0, 3), 1);
        is("21 the new RECORD", x.fits(), 1);
    }

    private static void fits() {
        is("22 without SPEECHES", three().fits(), 1);
        SilenceFines nobody = new SilenceFines();
        is("22 without SPEECHES or MEMBERS", nobody.fits(), 1);
        nobody.record(0, 1);
        is("22 without MEMBERS", nobody.fits(), 0);
        SilenceFines x = three();
        x.record(0, 2);
        is("22 two can", x.fits(), 2);
        x.record(0, 3);
        is("22 unlike ones side by side, by AIR", x.fits(), 1);
        x.record(2, 1);
        is("22 behind a GAP of two", x.fits(), 3);
        SilenceFines y = Due.chamber("member 4 1 99;member 4 1 99;", 2);
        y.record(0, 1);
        y.record(0, 1);
        is("22 without a GAP by unlike ones", y.fits(), 2);
        y.record(1, 1);
        is("22 with a GAP by any", y.fits(), 4);
        y.beat(1);
        is("22 the first by any, whoever spoke now", y.fits(), 4);
        fitsFromNow();
    }

    /** From AIR, RESTS and WORDS LEFT of now; AIR that comes back in GAPS and others' speeches counts. */
    private static void fitsFromNow() {
        SilenceFines x = Due.chamber("member 2 3 9;member 4 1 3;", 2);
        x.record(0, 2);
        is("22 full", x.fits(), 2);
        x.beat(1);
        is("22 AIR of now", x.fits(), 1);
        x.beat(0);
        x.beat(0);
        x.tear();
        x.record(1, 2);
        is("22 RESTS of now, and a GAP", x.fits(), 2);
        x.theme(1, 1);
        is("22 WORDS LEFT of now", x.fits(), 1);
        x.theme(1, 3);
        x.record(0, 2);
        is("22 each once", x.fits(), 2);
        x.record(0, 2);
        is("22 neither AIR nor words for twice", x.fits(), 0);
        x.theme(1, 4);
        is("22 WORDS LEFT and AIR behind another's SPEECH", x.fits(), 1);
        is("22 then 1 spoke first", x.sure(0), 1);
        SilenceFines most = Due.chamber("member 4 1 99;member 4 1 99;member 4 1 99;member 4 1 99;", 4);
        for (int i = 0; i < 7; i++) {
            most.record(9, 4);
        }
        is("22 four each time", most.fits(), 16384);
        is("22 not one alone", most.sure(6), NONE);
        most.beat(1);
        Due.is("22 fits changes nothing", most.member(0, 1), 3);
    }

    private static void sure() {
        SilenceFines x = three();
        is("23 sure(0) of no RECORD", x.sure(0), OUTSIDE);
        x.record(0, 2);
        is("23 sure(-1)", x.sure(-1), OUTSIDE);
        is("23 sure(1)", x.sure(1), OUTSIDE);
        is("23 two can", x.sure(0), NONE);
        x.record(0, 3);
        is("23 sure(0)", x.sure(0), 0);
        is("23 sure(1)", x.sure(1), 1);
        x.record(2, 1);
        is("23 three can", x.sure(2), NONE);
        is("23 still sure", x.sure(1), 1);
        x.record(0, 4);
        is("23 no ways", x.fits(), 0);
        is("23 no ways", x.sure(1), NONE);
        x.tear();
        is("23 sure(0) of no RECORD", x.sure(0), OUTSIDE);
        SilenceFines nobody = new SilenceFines();
        nobody.record(0, 1);
        is("23 without MEMBERS", nobody.sure(0), NONE);
    }

    private static void seed() {
        SilenceFines x = three();
        is("24 seed(-1)", x.seed(-1), OUTSIDE);
        is("24 seed(-2147483648)", x.seed(-2147483648), OUTSIDE);
        is("24 seed(2147483647)", x.seed(2147483647), 0);
        is("24 seed(5)", x.seed(5), 2147483647);
        x.drift(1);
        is("24 THE SEED behind three DRAWS", x.seed(2147483647), afterDraws(5, 3));
        x.theme(0, 0);
        x.theme(1, 0);
        x.beat(4);
        x.beat(0);
        x.beat(0);
        x.beat(0);
        x.drift(1);
        is("24 THE SEED from the highest", x.seed(0), afterDraws(2147483647, 1));
    }

    private static void keep() {
        SilenceFines x = three();
        is("25 keep(-1)", x.keep(-1), UNKNOWN);
        is("25 keep(2)", x.keep(2), UNKNOWN);
        x.beat(3);
        is("25 keep(0)", x.keep(0), 1);
        x.beat(2);
        is("25 keep(1)", x.keep(1), 1);
        is("25 goBack(0)", x.goBack(0), 1);
        is("25 image 0", x.told(6), 1);
        is("25 goBack(1)", x.goBack(1), 1);
        is("25 image 1", x.told(6), 2);
        x.beat(0);
        is("25 keep(0) again", x.keep(0), 1);
        x.beat(0);
        x.goBack(0);
        is("25 image 0 anew", x.told(6), 3);
        is("25 keep without MEMBERS", new SilenceFines().keep(1), 1);
    }

    private static void goBack() {
        SilenceFines x = three();
        is("26 goBack(2)", x.goBack(2), UNKNOWN);
        is("26 goBack(-1)", x.goBack(-1), UNKNOWN);
        is("26 goBack(0)", x.goBack(0), NOT);
        x.keep(1);
        is("26 goBack(0), 1 alone is kept", x.goBack(0), NOT);
        x.seed(11);
        x.law(1, 7, 3);
        x.theme(2, 44);
        x.beat(3);
        x.beat(0);
        x.beat(0);
        x.keep(0);
        SilenceFines same = three();
        same.law(1, 7, 3);
        same.theme(2, 44);
        same.beat(3);
        same.beat(0);
        same.beat(0);
        x.law(0, 9, 9);
        x.drift(200);
        x.theme(1, 1);
        x.plan(1);
        x.record(0, 1);
        is("26 goBack(0)", x.goBack(0), 1);
        is("26 PLAN is none of it", x.drop(), 1);
        is("26 RECORD is none of it", x.tear(), 1);
        Due.same("26 all is so again", x, same);
        is("26 THE SEED", x.seed(0), 11);
        x.beat(4);
        is("26 what was not paid yet", x.member(2, 3), 14);
        x.beat(0);
        is("26 goBack(0) again", x.goBack(0), 1);
        Due.same("26 all is so once more", x, same);
        x.law(0, 8, 0);
        x.beat(0);
        is("26 who stopped", x.member(0, 3), 8);
        is("26 goBack(1)", x.goBack(1), 1);
        Due.same("26 as at first", x, three());
        x.beat(0);
        is("26 nobody stopped", x.member(0, 3), 0);
    }

    public static void main(String[] args) {
        newObject();
        feed();
        chamber();
        fault();
        told();
        member();
        beat();
        theme();
        law();
        drift();
        plan();
        drop();
        run();
        follow();
        ever();
        voices();
        everyChamber();
        answer();
        laws();
        premium();
        record();
        tear();
        fits();
        sure();
        seed();
        keep();
        goBack();
        Due.end("PromiseTest");
    }
}
