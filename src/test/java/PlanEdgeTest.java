import java.math.BigInteger;
import java.util.Arrays;

/** Promises 11 to 19, plans and what is tried on them: each sentence that names a boundary, by itself. */
public final class PlanEdgeTest {
    private static final int NONE = -1, UNKNOWN = -1000000001, OUTSIDE = -1000000002, FULL = -1000000004;
    private static final int LOWEST = -2147483648, HIGHEST = 2147483647;
    private static final String PAIR = "member 4 1 99;member 4 1 99;";

    private static void is(String call, long got, long want) {
        Due.is(call, got, want);
    }

    private static SilenceFines planned(String text, int members, int... sets) {
        SilenceFines x = Due.chamber(text, members);
        for (int set : sets) {
            x.plan(set);
        }
        return x;
    }

    private static String members(int n) {
        return "member 4 1 99;".repeat(n);
    }

    // ---- Promise 11: a beat more in the PLAN: how many; UNKNOWN, FULL (30)

    private static void plan() {
        for (int members = 0; members <= 4; members++) {
            SilenceFines x = Due.chamber(members(members), members);
            int next = 1 << members;
            int[] unknown = {next, next | 1, next | next - 1, 16, 1 << 30, -1, LOWEST, LOWEST | 1, HIGHEST};
            for (int set : unknown) {
                is("11 plan(" + set + ") of " + members, x.plan(set), UNKNOWN);
            }
            Due.alike("11 refused beats of a PLAN of " + members, x, Due.chamber(members(members), members));
            SilenceFines y = Due.chamber(members(members), members);
            SilenceFines z = Due.chamber(members(members), members);
            for (int i = 0; i < 30; i++) {
                is("11 plan(" + i % next + ") of " + members, y.plan(i % next), i + 1);
                is("11 told(10)", y.told(10), i + 1);
                z.plan(i % next);
            }
            is("11 a thirty-first beat", y.plan(0), FULL);
            is("11 a thirty-first beat", y.plan(next - 1), FULL);
            for (int set : unknown) {
                is("11 plan(" + set + ") of a full PLAN: UNKNOWN ahead of FULL", y.plan(set), UNKNOWN);
            }
            is("11 told(10) of a full PLAN", y.told(10), 30);
            Due.alike("11 beats refused by a full PLAN of " + members, y, z);
        }
    }

    /** All thirty beats are run and followed. */
    private static void thirty() {
        SilenceFines x = Due.chamber(PAIR, 2);
        for (int i = 0; i < 29; i++) {
            x.plan(1 + i % 2);
        }
        x.plan(0);
        is("13 thirty beats: SILENCE", x.run(NONE, 0), 1);
        is("13 thirty beats: OVERLAPS", x.run(NONE, 1), 0);
        is("13 thirty beats: SAID", x.run(NONE, 2), 29);
        is("13 thirty beats: GAP in the last one", x.run(NONE, 3), 29);
        is("13 thirty beats: who stopped pays", x.run(0, 0), 5);
        is("18 thirty beats", x.laws(2), 4);
        is("14 thirty beats", x.follow(), 1);
        is("14 thirty beats: THE BEAT", x.told(6), 30);
        is("14 thirty beats: OWED", x.member(0, 3), 5);
        is("14 the PLAN stays", x.told(10), 30);
    }

    // ---- Promise 12: no PLAN: how many beats it had

    private static void drop() {
        SilenceFines x = Due.chamber(PAIR, 2);
        is("12 drop() of an empty PLAN", x.drop(), 0);
        for (int n : new int[] {1, 2, 29, 30, 0}) {
            for (int i = 0; i < n; i++) {
                x.plan(3);
            }
            is("12 drop() of " + n, x.drop(), n);
            is("12 told(10)", x.told(10), 0);
            is("12 nothing is left to run", x.run(NONE, 2) + x.run(NONE, 0), 0);
        }
        SilenceFines y = planned(PAIR, 2, 3, 0, 1);
        y.beat(1);
        y.drop();
        SilenceFines z = Due.chamber(PAIR, 2);
        z.beat(1);
        Due.alike("12 nothing but the PLAN is gone", y, z);
    }

    // ---- Promise 13: RUN

    private static void runArguments() {
        SilenceFines x = planned(PAIR, 2, 1, 0, 3);
        for (int m : new int[] {-2, 2, 3, 4, 32, LOWEST, HIGHEST}) {
            is("13 run(" + m + ", 0)", x.run(m, 0), UNKNOWN);
            is("13 run(" + m + ", 4): UNKNOWN ahead of OUTSIDE", x.run(m, 4), UNKNOWN);
            is("13 run(" + m + ", -1): UNKNOWN ahead of OUTSIDE", x.run(m, -1), UNKNOWN);
        }
        for (int what : new int[] {-1, 4, 5, LOWEST, HIGHEST}) {
            is("13 run(-1, " + what + ")", x.run(NONE, what), OUTSIDE);
            is("13 run(0, " + what + "): what is not looked at", x.run(0, what), 5);
            is("13 run(1, " + what + "): what is not looked at", x.run(1, what), 1);
        }
        int[] due = {1, 1, 2, 1};
        for (int what = 0; what < 4; what++) {
            is("13 run(-1, " + what + ")", x.run(NONE, what), due[what]);
            is("13 run(0, " + what + ")", x.run(0, what), 5);
        }
        Due.alike("13 a RUN is tried only", x, planned(PAIR, 2, 1, 0, 3));
    }

    /** OVERLAPS: beats with two or more that do speak; SAID: with at least one. */
    private static void runCounts() {
        SilenceFines x = planned("member 1 3 9;member 4 1 9;member 4 1 9;member 4 1 0;", 4, 15, 3, 7, 9, 8, 0, 6, 14);
        // 0 is out of AIR till the fifth beat, and 3 has no words: the fourth, fifth and sixth beat are silent.
        is("13 beats of SILENCE", x.run(NONE, 0), 3);
        is("13 OVERLAPS", x.run(NONE, 1), 4);
        is("13 SAID", x.run(NONE, 2), 5);
        is("13 GAP", x.run(NONE, 3), 3);
        is("13 what 0 OWES more", x.run(0, 0), 0);
        is("13 what 1 OWES more", x.run(1, 0), 16);
        is("13 what 2 OWES more", x.run(2, 0), 4);
        is("13 what 3 OWES more", x.run(3, 0), 0);
    }

    /** GAP: the first silent beat (0 on); NONE. */
    private static void gap() {
        for (int at = 0; at < 30; at++) {
            SilenceFines x = Due.chamber(PAIR, 2);
            for (int i = 0; i < 30; i++) {
                x.plan(i == at || i == 29 ? 0 : 1 + i % 2);
            }
            is("13 GAP " + at, x.run(NONE, 3), at);
        }
        SilenceFines x = Due.chamber(PAIR, 2);
        is("13 GAP of an empty PLAN", x.run(NONE, 3), NONE);
        for (int i = 0; i < 30; i++) {
            x.plan(1 + i % 2);
            is("13 GAP of " + (i + 1) + " beats without one", x.run(NONE, 3), NONE);
        }
        is("13 GAP by who speaks, not by who is to", planned(PAIR, 2, 1, 1, 1, 1, 1).run(NONE, 3), 4);
        SilenceFines y = planned(PAIR, 2, 1, 0);
        is("13 GAP of one PLAN", y.run(NONE, 3), 1);
        y.drop();
        y.plan(1);
        is("13 GAP of the next PLAN: none of the one ahead", y.run(NONE, 3), NONE);
    }

    // ---- Promise 14: the PLAN is done, beat by beat, and stays

    private static void follow() {
        SilenceFines x = Due.chamber(PAIR, 2);
        SilenceFines y = Due.chamber(PAIR, 2);
        is("14 follow() of an empty PLAN", x.follow(), 0);
        Due.alike("14 follow() of an empty PLAN", x, y);
        int[] sets = {1, 0, 3, 1, 1, 1, 2, 0, 0};
        SilenceFines z = planned(PAIR, 2, sets);
        SilenceFines w = planned(PAIR, 2, sets);
        for (int round = 0; round < 3; round++) {
            int silences = 0;
            for (int set : sets) {
                silences += w.beat(set) == 0 ? 1 : 0;
            }
            is("14 follow()", z.follow(), silences);
            is("14 the PLAN stays", z.told(10), sets.length);
        }
        Due.alike("14 follow() beat by beat", z, w);
    }

    // ---- Promises 15, 16: FOR EVER, VOICES

    private static void ever() {
        for (int members = 0; members <= 4; members++) {
            SilenceFines x = Due.chamber(members(members), members);
            for (int set = 0; set < 1 << members; set++) {
                is("15 ever(" + set + "), REST 1 each", x.ever(set), Integer.bitCount(set) >= 2 ? 1 : 0);
            }
            int next = 1 << members;
            for (int set : new int[] {next, next | 1, next | next - 1, 16, 1 << 30, -1, LOWEST, LOWEST | 1, HIGHEST}) {
                is("15 ever(" + set + ") of " + members, x.ever(set), UNKNOWN);
            }
            is("16 voices() of " + members, x.voices(), members < 2 ? NONE : 3);
            Due.alike("15 ever() and voices() change nothing", x, Due.chamber(members(members), members));
        }
        // Full AIR, not that of now; no RESTS counted; WORDS not looked at.
        SilenceFines x = Due.chamber("member 2 1 0;member 1 1 1;member 1 3 2;member 1 3 3;", 4);
        SilenceFines y = Due.chamber("member 2 1 99;member 1 1 99;member 1 3 99;member 1 3 99;", 4);
        x.theme(0, 1);
        for (int i = 0; i < 3; i++) {
            x.beat(15);
            for (int set = 0; set < 16; set++) {
                is("15 ever(" + set + ") of now", x.ever(set), y.ever(set));
            }
            is("16 voices() of now", x.voices(), y.voices());
        }
    }

    /** Where BREATH bears on it or not: the longest breath does not help a SET that REST leaves too few. */
    private static void everEdges() {
        int[][] rests = {{1}, {3}, {1, 1}, {1, 2}, {2, 2}, {3, 3}, {2, 2, 2}, {2, 2, 3}, {1, 3, 3}, {1, 2, 3}, {3, 3, 3},
            {3, 3, 3, 3}, {2, 3, 3, 3}};
        int[] due = {0, 0, 1, 0, 0, 0, 1, 0, 1, 1, 0, 1, 1};
        for (int i = 0; i < rests.length; i++) {
            for (int breath = 1; breath <= 4; breath++) {
                StringBuilder text = new StringBuilder();
                for (int rest : rests[i]) {
                    text.append("member ").append(breath).append(' ').append(rest).append(" 0;");
                }
                SilenceFines x = Due.chamber(text.toString(), rests[i].length);
                is("15 all of '" + text + "'", x.ever((1 << rests[i].length) - 1), due[i]);
            }
        }
    }

    /** The SET of fewest; of like ones the least; NONE. */
    private static void voices() {
        String[] texts = {"", "member 4 1 9;", "member 4 1 9;member 4 2 9;", "member 4 3 9;member 4 3 9;member 4 3 9;",
            "member 1 1 0;member 1 1 0;", "member 1 2 0;member 1 2 0;member 1 2 0;", "member 4 3 0;member 1 1 0;member 1 1 0;",
            "member 1 2 0;member 1 2 0;member 1 2 0;member 1 2 0;", "member 1 2 0;member 1 2 0;member 1 1 0;member 1 1 0;",
            "member 1 3 0;member 1 3 0;member 1 1 0;member 1 3 0;", "member 1 3 0;member 1 3 0;member 1 3 0;member 1 3 0;",
            "member 1 1 0;member 1 2 0;member 1 2 0;member 1 1 0;"};
        int[] due = {NONE, NONE, NONE, NONE, 3, 7, 6, 7, 12, 7, 15, 9};
        for (int i = 0; i < texts.length; i++) {
            is("16 voices() of '" + texts[i] + "'", Due.chamber(texts[i], texts[i].split(";").length - (i == 0 ? 1 : 0)).voices(), due[i]);
        }
    }

    // ---- Promise 17: BEST ANSWER

    private static void answerArguments() {
        for (int members = 0; members <= 4; members++) {
            SilenceFines x = planned(members(members), members, 0, 0);
            for (int m : new int[] {-1, -2, members, 4, 32, LOWEST, HIGHEST}) {
                for (int what : new int[] {0, 1, 2, -1, LOWEST, HIGHEST}) {
                    is("17 answer(" + m + ", " + what + "): UNKNOWN ahead of OUTSIDE", x.answer(m, what), UNKNOWN);
                }
            }
            for (int m = 0; m < members; m++) {
                for (int what : new int[] {-1, 2, 3, LOWEST, HIGHEST}) {
                    is("17 answer(" + m + ", " + what + ")", x.answer(m, what), OUTSIDE);
                }
                is("17 answer(" + m + ", 0)", x.answer(m, 0), 0);
                is("17 answer(" + m + ", 1)", x.answer(m, 1), 0);
            }
            Due.alike("17 answer() changes nothing", x, planned(members(members), members, 0, 0));
        }
    }

    /** Under 'all' each silent beat costs; so to speak in each that nobody else speaks in is best, in the first twelve alone. */
    private static void answerTwelve() {
        for (int beats = 0; beats <= 30; beats++) {
            SilenceFines x = Due.chamber(PAIR + "law all 10 9;", 2);
            for (int i = 0; i < beats; i++) {
                x.plan(i % 2 == 0 ? 2 : 0);
            }
            int silent = Math.min(beats, 12) / 2;
            int due = 0xAAA & (1 << Math.min(beats, 12)) - 1;
            is("17 " + beats + " beats, " + silent + " without another: what is OWED more", x.answer(0, 0), 0);
            is("17 " + beats + " beats: the twelve first at most", x.answer(0, 1), due);
        }
        SilenceFines last = planned(PAIR + "law all 10 9;", 2, 2, 2, 2, 2, 0, 2, 2, 2, 2, 0, 2, 0, 0, 0);
        // 1 is out of breath in the beats 6 and 8.
        is("17 the twelfth beat is looked at, the thirteenth not", last.answer(0, 1), 1 << 4 | 1 << 6 | 1 << 8 | 1 << 9 | 1 << 11);
        is("17 the twelfth beat is looked at, the thirteenth not", last.answer(0, 0), 0);
        SilenceFines dear = planned("member 1 1 0;member 4 1 99;law all 10 9;", 2, 0, 0, 0, 0, 0, 0, 0, 0, 0, 0, 0, 0, 0, 0);
        is("17 fourteen silent beats: twelve are paid", dear.answer(0, 0), 60);
        is("17 who cannot speak has no beats", dear.answer(0, 1), 0);
        SilenceFines all = Due.chamber("member 4 1 0;member 4 1 99;law all 10 9;", 2);
        for (int i = 0; i < 11; i++) {
            all.plan(0);
        }
        is("17 eleven silent beats: eleven are paid", all.answer(0, 0), 55);
    }

    /** The most beats that an answer can have: eight of the twelve, with the longest BREATH and the shortest REST. */
    private static void answerEight() {
        SilenceFines x = planned(PAIR + "law all 10 9;", 2, 0, 0, 0, 0, 2, 0, 2, 0, 2, 0, 2, 0);
        is("17 eight beats: what is OWED more", x.answer(0, 0), 0);
        is("17 eight beats", x.answer(0, 1), 0xAAF);
        SilenceFines y = planned(PAIR + "law all 10 9;", 2, 0, 0, 0, 0, 0, 2, 0, 2, 0, 2, 0, 2);
        is("17 eight silent beats, five of them on end: what is OWED more", y.answer(0, 0), 5);
        is("17 eight silent beats, five of them on end: seven, the least SET", y.answer(0, 1), 0x54F);
    }

    /** Its own bits in the PLAN are not looked at. */
    private static void answerOwnBits() {
        int[] others = {0, 2, 4, 6, 0, 2, 0};
        for (int own = 0; own < 1 << others.length; own++) {
            SilenceFines x = Due.chamber("member 2 2 9;member 2 1 9;member 3 1 2;law began 7 3;", 3);
            SilenceFines y = Due.chamber("member 2 2 9;member 2 1 9;member 3 1 2;law began 7 3;", 3);
            for (int i = 0; i < others.length; i++) {
                x.plan(others[i] | own >> i & 1);
                y.plan(others[i]);
            }
            is("17 own bits " + own + ": what is OWED more", x.answer(0, 0), y.answer(0, 0));
            is("17 own bits " + own + ": beats", x.answer(0, 1), y.answer(0, 1));
        }
    }

    /** The least of all that it can do by RUNS; of like ones the fewest beats, then the least SET. */
    private static void answerByRuns() {
        String[] laws = {"law stopped 5 2;", "law began 5 2;", "law all 7 3;", "law stopped 0 1;", "law all 4 9;", "law began 1 0;"};
        int[][] plans = {{0, 0, 0, 0, 0}, {2, 0, 0, 6, 0}, {0, 3, 0, 0, 2}, {2, 2, 7, 2, 2}, {1, 0, 4, 0, 2}};
        for (String law : laws) {
            for (int[] plan : plans) {
                for (int first = 0; first < 8; first++) {
                    byRuns("member 2 2 3;member 3 1 9;member 1 3 2;" + law, plan, first);
                }
            }
        }
    }

    private static void byRuns(String text, int[] plan, int first) {
        for (int m = 0; m < 3; m++) {
            int least = HIGHEST;
            int best = 0;
            for (int set = 0; set < 1 << plan.length; set++) {
                SilenceFines y = begun(text, first);
                for (int i = 0; i < plan.length; i++) {
                    y.plan(plan[i] & ~(1 << m) | (set >> i & 1) << m);
                }
                int more = y.run(m, 0);
                boolean better = more < least || more == least && Integer.bitCount(set) < Integer.bitCount(best);
                least = Math.min(least, more);
                best = better ? set : best;
            }
            SilenceFines x = begun(text, first);
            for (int set : plan) {
                x.plan(set);
            }
            String when = "17 " + m + " in '" + text + "' behind " + first + ", of " + Arrays.toString(plan);
            is(when + ": what is OWED more", x.answer(m, 0), least);
            is(when + ": beats", x.answer(m, 1), best);
        }
    }

    private static SilenceFines begun(String text, int first) {
        SilenceFines x = Due.chamber(text, 3);
        x.beat(first);
        x.beat(0);
        return x;
    }

    /** Like ones: of the same number of beats the least SET, and none at all where none helps. */
    private static void answerLikeOnes() {
        SilenceFines one = planned("member 1 3 1;member 4 1 99;law all 10 0;", 2, 0, 0, 0, 0);
        is("17 one word, four silent beats: what is OWED more", one.answer(0, 0), 15);
        is("17 one word, four silent beats: the least SET", one.answer(0, 1), 1);
        SilenceFines none = planned("member 4 1 99;member 4 1 99;law all 1 0;", 2, 0, 0, 2, 0);
        is("17 C / 2 is 0: what is OWED more", none.answer(0, 0), 0);
        is("17 C / 2 is 0: the fewest beats", none.answer(0, 1), 0);
        SilenceFines free = planned("member 4 1 99;member 4 1 99;law stopped 0 0;", 2, 0, 0, 0, 2);
        free.beat(1);
        is("17 nothing costs: the fewest beats", free.answer(0, 1), 0);
    }

    // ---- Promise 18: LAWS

    private static void laws() {
        SilenceFines empty = new SilenceFines();
        for (int kind : new int[] {-1, 3, 4, LOWEST, HIGHEST}) {
            is("18 laws(" + kind + ")", empty.laws(kind), OUTSIDE);
        }
        for (int kind = 0; kind < 3; kind++) {
            is("18 laws(" + kind + ") without MEMBERS", empty.laws(kind), 0);
            is("18 laws(" + kind + ") of an empty PLAN", Due.chamber(PAIR, 2).laws(kind), 0);
        }
        for (int now = 0; now < 3; now++) {
            for (int past = 0; past < 4; past++) {
                for (int kind = 0; kind < 3; kind++) {
                    SilenceFines x = lawsCase(now, past);
                    int got = x.laws(kind);
                    is("18 KIND is as it was", x.told(1), now);
                    SilenceFines y = lawsCase(now, past);
                    y.law(kind, 11, 3);
                    is("18 laws(" + kind + ") under " + now + ": same C, O, tried from now", got, y.run(0, 0) + y.run(1, 0) + y.run(2, 0));
                    Due.alike("18 laws() changes nothing", x, lawsCase(now, past));
                }
            }
        }
    }

    private static SilenceFines lawsCase(int now, int past) {
        SilenceFines x = planned(PAIR + "member 1 2 3;", 3, 0, 7, 0, 4, 0, 0, 2, 0);
        x.law(now, 11, 3);
        if (past > 0) {
            x.beat(past + 3);
        }
        x.beat(0);
        return x;
    }

    // ---- Promise 19: PREMIUM for k beats (0 .. 50)

    private static void premiumArguments() {
        SilenceFines x = Due.chamber(PAIR + "cough 10;", 2);
        for (int k : new int[] {-1, 51, 52, LOWEST, HIGHEST}) {
            is("19 premium(" + k + ", 0)", x.premium(k, 0), OUTSIDE);
            is("19 premium(" + k + ", 1)", x.premium(k, 1), OUTSIDE);
            is("19 premium(" + k + ", 2)", x.premium(k, 2), OUTSIDE);
        }
        for (int what : new int[] {-1, 2, 3, LOWEST, HIGHEST}) {
            is("19 premium(0, " + what + ")", x.premium(0, what), OUTSIDE);
            is("19 premium(50, " + what + ")", x.premium(50, what), OUTSIDE);
        }
        Due.alike("19 premium() changes nothing", x, Due.chamber(PAIR + "cough 10;", 2));
    }

    /** Each Q and k by numbers that cannot be too large; C as it is now. */
    private static void premium() {
        BigInteger billion = BigInteger.valueOf(1000000000L);
        BigInteger hundred = BigInteger.valueOf(100);
        for (int q = 0; q <= 100; q++) {
            SilenceFines x = Due.chamber("cough " + q + ";law all 98 0;", 0);
            BigInteger left = billion;
            for (int k = 0; k <= 50; k++) {
                BigInteger odds = billion.subtract(left);
                is("19 premium(" + k + ", 0) by " + q, x.premium(k, 0), odds.longValue());
                int c = k % 2 == 0 ? 99 : k;
                x.law(0, c, 0);
                is("19 premium(" + k + ", 1) by " + q + " and " + c, x.premium(k, 1), odds.multiply(BigInteger.valueOf(c)).divide(billion).longValue());
                left = left.multiply(BigInteger.valueOf(100 - q)).divide(hundred);
            }
        }
        SilenceFines sure = Due.chamber("cough 100;", 0);
        sure.law(0, 99, 0);
        is("19 Q 100, no beats: odds", sure.premium(0, 0), 0);
        is("19 Q 100, no beats", sure.premium(0, 1), 0);
        is("19 Q 100, one beat: odds", sure.premium(1, 0), 1000000000);
        is("19 Q 100, one beat", sure.premium(1, 1), 99);
        SilenceFines never = Due.chamber("law all 99 0;", 0);
        is("19 Q 0, fifty beats: odds", never.premium(50, 0), 0);
        is("19 Q 0, fifty beats", never.premium(50, 1), 0);
        SilenceFines free = Due.chamber("cough 100;law all 0 99;", 0);
        is("19 C 0", free.premium(50, 1), 0);
    }

    public static void main(String[] args) {
        plan();
        thirty();
        drop();
        runArguments();
        runCounts();
        gap();
        follow();
        ever();
        everEdges();
        voices();
        answerArguments();
        answerTwelve();
        answerEight();
        answerOwnBits();
        answerByRuns();
        answerLikeOnes();
        laws();
        premiumArguments();
        premium();
        Due.end("PlanEdgeTest");
    }
}
