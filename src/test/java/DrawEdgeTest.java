/** BY DRAWS and promises 24 to 26, THE SEED and IMAGES: each sentence that names a boundary, by itself. */
public final class DrawEdgeTest {
    private static final int UNKNOWN = -1000000001, OUTSIDE = -1000000002, NOT = -1000000003;
    private static final int LOWEST = -2147483648, HIGHEST = 2147483647;

    private static void is(String call, long got, long want) {
        Due.is(call, got, want);
    }

    /** THE SEED so many DRAWS on. */
    private static int on(long seed, int draws) {
        for (int i = 0; i < draws; i++) {
            seed = (seed * 1103515245L + 12345L) % 2147483648L;
        }
        return (int) seed;
    }

    /** What the DRAW of n is, so many DRAWS on. */
    private static int draw(int seed, int draws, int n) {
        return on(seed, draws) / 65536 % n;
    }

    /** The least seed whose first DRAW of n is what is wanted. */
    private static int seedFor(int n, int wanted) {
        int seed = 0;
        while (draw(seed, 1, n) != wanted) {
            seed++;
        }
        return seed;
    }

    // ---- Promise 24: THE SEED becomes v (0 .. 2147483647): what it was

    private static void seed() {
        SilenceFines x = new SilenceFines();
        int was = 0;
        for (int v : new int[] {0, 1, HIGHEST, HIGHEST - 1, 0, HIGHEST, 12345}) {
            is("24 seed(" + v + ")", x.seed(v), was);
            was = v;
        }
        for (int v : new int[] {-1, -2, LOWEST, LOWEST + 1}) {
            is("24 seed(" + v + ")", x.seed(v), OUTSIDE);
        }
        is("24 refused seeds change nothing", x.seed(0), was);
    }

    /** Each DRAW: times 1103515245 and 12345, left over by 2 to the 31, from the least seed up to the greatest. */
    private static void seedOn() {
        int[] seeds = {0, 1, 2, 65535, 65536, 1073741823, 1073741824, 2000000000, HIGHEST - 1, HIGHEST};
        int[] next = {12345, 1103527590, -1, -1, -1, -1, -1, -1, -1, -1};
        for (int i = 0; i < seeds.length; i++) {
            SilenceFines x = Due.chamber("member 1 1 1;", 1);
            x.seed(seeds[i]);
            is("24 drift(1) of " + seeds[i], x.drift(1), draw(seeds[i], 1, 8) == 0 ? 1 : 0);
            is("24 THE SEED behind " + seeds[i], x.seed(0), next[i] < 0 ? on(seeds[i], 1) : next[i]);
        }
        SilenceFines x = Due.chamber("member 4 1 99;member 4 1 99;member 4 1 99;member 4 1 99;", 4);
        x.drift(1);
        is("24 four MEMBERS CAN SPEAK: four DRAWS", x.seed(0), on(0, 4));
    }

    // ---- BY DRAWS

    /** Who spoke goes on, unless a DRAW of 100 is below Q: just below is a cough, just Q is none. */
    private static void coughs() {
        for (int q = 0; q <= 100; q++) {
            for (int drawn = q - 1; drawn <= q; drawn++) {
                if (drawn < 0 || drawn > 99) {
                    continue;
                }
                SilenceFines x = Due.chamber("member 4 1 99;cough " + q + ";", 1);
                x.beat(1);
                x.seed(seedFor(100, drawn));
                is("10 Q " + q + ", a DRAW of " + drawn, x.drift(1), drawn < q ? 0 : 1);
            }
        }
        for (int seed = 0; seed < 2000; seed += 13) {
            SilenceFines never = Due.chamber("member 4 1 99;cough 0;", 1);
            SilenceFines always = Due.chamber("member 4 1 99;cough 100;", 1);
            never.beat(1);
            always.beat(1);
            never.seed(seed);
            always.seed(seed);
            is("10 Q 0: never a cough, by " + seed, never.drift(3), 3);
            is("10 Q 0: a DRAW of 100 for it all the same, by " + seed, never.seed(0), on(seed, 3));
            is("10 Q 100: always a cough, by " + seed, always.drift(1), 0);
        }
    }

    /** Each other one that CAN SPEAK begins by a DRAW of 8 of 0, and by no other. */
    private static void begins() {
        for (int drawn = 0; drawn < 8; drawn++) {
            SilenceFines x = Due.chamber("member 4 1 99;cough 100;", 1);
            x.seed(seedFor(8, drawn));
            is("10 a DRAW of 8 of " + drawn, x.drift(1), drawn == 0 ? 1 : 0);
            SilenceFines y = Due.chamber("member 4 1 99;cough 100;", 1);
            y.beat(1);
            y.beat(0);
            y.seed(seedFor(8, drawn));
            is("10 who spoke two beats ahead begins: " + drawn, y.drift(1), drawn == 0 ? 1 : 0);
        }
    }

    /** Who has no AIR, no WORDS LEFT: no DRAW for it, whether it spoke or not. */
    private static void noDraw() {
        SilenceFines x = Due.chamber("member 1 3 99;member 4 3 1;member 4 3 0;", 3);
        x.beat(3);
        x.seed(77);
        is("10 nobody CAN SPEAK", x.drift(1), 0);
        is("10 nobody CAN SPEAK: no DRAW", x.seed(0), 77);
        SilenceFines last = Due.chamber("member 1 3 99;member 4 3 99;", 2);
        last.beat(1);
        last.seed(seedFor(8, 0));
        is("10 the DRAW is the next one's", last.drift(1), 1);
        is("10 who spoke", last.told(8), 2);
    }

    /** MEMBERS in order; then the BEAT with these: draws are of what was ahead of it. */
    private static void order() {
        int[] seen = new int[16];
        for (int seed = 1; seed < 4000; seed += 3) {
            SilenceFines x = Due.chamber("member 4 1 99;member 4 1 99;member 4 1 99;member 4 1 99;cough 60;", 4);
            x.beat(10);
            x.seed(seed);
            int set = (draw(seed, 1, 8) == 0 ? 1 : 0) | (draw(seed, 2, 100) < 60 ? 0 : 2)
                | (draw(seed, 3, 8) == 0 ? 4 : 0) | (draw(seed, 4, 100) < 60 ? 0 : 8);
            is("10 how many were SAID, by " + seed, x.drift(1), set == 0 ? 0 : 1);
            is("10 MEMBERS in order, by " + seed, x.told(8), set);
            is("10 a DRAW each, by " + seed, x.seed(0), on(seed, 4));
            seen[set] = 1;
            SilenceFines y = Due.chamber("member 4 1 99;member 4 1 99;member 4 1 99;member 4 1 99;cough 60;", 4);
            y.beat(10);
            y.beat(set);
            Due.same("10 then the BEAT with these, by " + seed, x, y);
        }
        int all = 0;
        for (int one : seen) {
            all += one;
        }
        is("10 all SETS were drawn", all, 16);
    }

    /** n beats are as many by one each. */
    private static void oneByOne() {
        for (int n : new int[] {1, 2, 40, 400}) {
            String text = "member 2 2 30;member 3 1 40;member 4 3 99;law began 7 2;cough 25;";
            SilenceFines x = Due.chamber(text, 3);
            SilenceFines y = Due.chamber(text, 3);
            x.seed(4711);
            y.seed(4711);
            int said = 0;
            for (int i = 0; i < n; i++) {
                said += y.drift(1);
            }
            is("10 drift(" + n + ")", x.drift(n), said);
            Due.same("10 drift(" + n + ")", x, y);
            is("10 drift(" + n + "): THE SEED", x.seed(0), y.seed(0));
        }
    }

    // ---- Promises 25, 26: IMAGES 0, 1

    private static final String TEXT = "member 3 3 20;member 4 2 30;member 2 1 9;law began 6 2;cough 20;";

    private static SilenceFines sitting() {
        SilenceFines x = Due.chamber(TEXT, 3);
        x.seed(31);
        x.beat(7);
        x.beat(3);
        x.beat(0);
        x.beat(2);
        x.beat(0);
        return x;
    }

    private static void arguments() {
        SilenceFines x = sitting();
        int[] unknown = {-1, 2, 3, 31, 32, LOWEST, HIGHEST};
        for (int i : unknown) {
            is("25 keep(" + i + ")", x.keep(i), UNKNOWN);
            is("26 goBack(" + i + "): UNKNOWN ahead of NOT", x.goBack(i), UNKNOWN);
        }
        is("26 goBack(0): it was not kept", x.goBack(0), NOT);
        is("26 goBack(1): it was not kept", x.goBack(1), NOT);
        Due.alike("25 26 refused images", x, sitting());
        for (int i = 0; i < 2; i++) {
            SilenceFines y = sitting();
            is("25 keep(" + i + ")", y.keep(i), 1);
            y.beat(7);
            is("26 goBack(" + (1 - i) + "): the other one was kept", y.goBack(1 - i), NOT);
            is("26 goBack(" + i + ")", y.goBack(i), 1);
            for (int j : unknown) {
                is("26 goBack(" + j + ")", y.goBack(j), UNKNOWN);
            }
            SilenceFines z = sitting();
            z.keep(i);
            Due.alike("26 goBack(" + i + ")", y, z);
        }
        SilenceFines none = new SilenceFines();
        is("25 keep(0) without MEMBERS", none.keep(0), 1);
        none.law(2, 3, 4);
        none.beat(0);
        is("26 goBack(0) without MEMBERS", none.goBack(0), 1);
        is("26 law of the image", none.told(1) * 100 + none.told(2) * 10 + none.told(3), 51);
        is("26 THE BEAT of the image", none.told(6), 0);
    }

    /** What an IMAGE keeps, each by itself: whatever changed behind it is as it was again. */
    private static void everything() {
        Due.Calls[] changes = {x -> { }, x -> x.beat(1), x -> x.beat(0), x -> x.beat(7), x -> x.theme(2, 99), x -> x.law(0, 6, 2),
            x -> x.law(1, 7, 2), x -> x.law(1, 6, 3), x -> x.law(2, 99, 99), x -> x.seed(5), x -> x.drift(1), x -> x.drift(999),
            x -> { x.beat(4); x.law(0, 1, 1); }, x -> { x.law(2, 9, 9); x.beat(0); x.beat(0); x.beat(0); }};
        for (int c = 0; c < changes.length; c++) {
            for (int i = 0; i < 2; i++) {
                SilenceFines x = sitting();
                x.keep(i);
                changes[c].on(x);
                is("26 goBack(" + i + ") behind change " + c, x.goBack(i), 1);
                SilenceFines y = sitting();
                y.keep(i);
                Due.alike("26 all is so again behind change " + c, x, y);
            }
        }
    }

    /** Who spoke goes on by a DRAW of 100; who stopped pays; what is not paid yet is paid: as in the IMAGE. */
    private static void whoSpoke() {
        SilenceFines x = Due.chamber("member 4 1 99;member 4 1 99;law stopped 5 0;", 2);
        x.beat(2);
        x.keep(0);
        x.beat(1);
        x.beat(0);
        x.goBack(0);
        x.beat(0);
        is("26 who stopped", x.member(1, 3) * 10 + x.member(0, 3), 50);
        x.goBack(0);
        x.seed(seedFor(100, 1));
        is("26 who spoke goes on", x.drift(1), 1);
        is("26 who spoke", x.told(8) & 2, 2);
        SilenceFines y = Due.chamber("member 4 1 99;member 4 1 99;law began 5 0;", 2);
        y.keep(1);
        y.beat(0);
        y.beat(0);
        y.keep(0);
        y.beat(1);
        is("26 two beats are paid", y.member(0, 3), 10);
        y.goBack(0);
        is("26 not paid yet", y.member(0, 3), 0);
        y.beat(2);
        is("26 what was not paid yet is paid", y.member(1, 3), 10);
        y.goBack(1);
        y.beat(1);
        is("26 nothing was unpaid", y.member(0, 3), 0);
        y.goBack(1);
        y.law(0, 5, 0);
        y.beat(0);
        is("26 none had spoken", y.member(0, 3) + y.member(1, 3), 0);
    }

    /** PLAN, RECORD, THE TEXT, the place of the FAULT and the MEMBERS are no part of an IMAGE. */
    private static void noPart() {
        SilenceFines x = sitting();
        x.plan(1);
        x.record(1, 1);
        x.feed(1, ';');
        x.keep(0);
        x.plan(2);
        x.record(2, 2);
        x.chamber();
        x.feed(3, 0);
        is("26 goBack(0) behind a FAULT", x.goBack(0), 1);
        is("26 beats of the PLAN", x.told(10), 2);
        is("26 SPEECHES", x.told(11), 2);
        is("26 bytes of THE TEXT", x.told(5), 3);
        is("26 fault()", x.fault(), 0);
        x.drop();
        x.tear();
        is("26 goBack(0) once more", x.goBack(0), 1);
        is("26 no PLAN comes back", x.told(10), 0);
        is("26 no RECORD comes back", x.told(11), 0);
    }

    /** An IMAGE stays as often as one goes back to it, till it is kept anew; the other one is its own. */
    private static void again() {
        SilenceFines x = sitting();
        x.keep(0);
        x.beat(4);
        x.keep(1);
        for (int round = 0; round < 3; round++) {
            x.drift(20);
            is("26 goBack(1)", x.goBack(1), 1);
            is("26 THE BEAT of image 1", x.told(6), 6);
            x.drift(20);
            is("26 goBack(0)", x.goBack(0), 1);
            is("26 THE BEAT of image 0", x.told(6), 5);
        }
        x.beat(0);
        x.beat(0);
        is("25 keep(0) anew", x.keep(0), 1);
        x.goBack(1);
        is("26 image 1 is as it was", x.told(6), 6);
        x.keep(1);
        x.goBack(0);
        is("26 image 0 anew", x.told(6), 7);
    }

    /** IMAGES are gone with the next CHAMBER, also one told by an empty text; they stay behind a FAULT. */
    private static void gone() {
        for (String text : new String[] {"", "member 1 1 1;", TEXT}) {
            SilenceFines x = sitting();
            x.keep(0);
            x.keep(1);
            Due.feed(x, text);
            x.chamber();
            is("26 goBack(0) in the next CHAMBER", x.goBack(0), NOT);
            is("26 goBack(1) in the next CHAMBER", x.goBack(1), NOT);
            is("25 keep(1) in the next CHAMBER", x.keep(1), 1);
            is("26 goBack(0): 1 alone", x.goBack(0), NOT);
            is("26 goBack(1)", x.goBack(1), 1);
        }
    }

    public static void main(String[] args) {
        seed();
        seedOn();
        coughs();
        begins();
        noDraw();
        order();
        oneByOne();
        arguments();
        everything();
        whoSpoke();
        noPart();
        again();
        gone();
        Due.end("DrawEdgeTest");
    }
}
