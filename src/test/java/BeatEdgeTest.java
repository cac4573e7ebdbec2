/** Promises 7 to 10, AIR and RESTS, SILENCE and OVERLAPS: each sentence that names a boundary, by itself. */
public final class BeatEdgeTest {
    private static final int UNKNOWN = -1000000001, OUTSIDE = -1000000002, NOT = -1000000003;
    private static final int LOWEST = -2147483648, HIGHEST = 2147483647;
    private static final String[] KINDS = {"stopped", "began", "all"};

    private static void is(String call, long got, long want) {
        Due.is(call, got, want);
    }

    /** So many MEMBERS of BREATH 4, REST 1 and 99 WORDS, with a law. */
    private static SilenceFines alike(int members, int kind, int c, int o) {
        StringBuilder text = new StringBuilder();
        for (int m = 0; m < members; m++) {
            text.append("member 4 1 99;");
        }
        text.append("law ").append(KINDS[kind]).append(' ').append(c).append(' ').append(o).append(';');
        return Due.chamber(text.toString(), members);
    }

    private static void owed(String when, SilenceFines x, int... due) {
        for (int m = 0; m < due.length; m++) {
            is(when + ": what " + m + " OWES", x.member(m, 3), due[m]);
        }
    }

    // ---- Promise 7: a BEAT with a SET of MEMBERS

    /** Each SET of 0 .. 4 MEMBERS is taken, and no bit of another one. */
    private static void sets() {
        for (int members = 0; members <= 4; members++) {
            for (int set = 0; set < 1 << members; set++) {
                is("7 beat(" + set + ") of " + members, alike(members, 0, 5, 1).beat(set), set);
            }
            SilenceFines x = alike(members, 0, 5, 1);
            int next = 1 << members;
            for (int set : new int[] {next, next | 1, next | next - 1, 16, 31, 1 << 30, -1, LOWEST, LOWEST | 1, HIGHEST}) {
                is("7 beat(" + set + ") of " + members, x.beat(set), UNKNOWN);
            }
            Due.alike("7 refused beats of " + members, x, alike(members, 0, 5, 1));
        }
    }

    /** Who has no AIR, no WORDS LEFT does not speak, and RESTS though it was to. */
    private static void canSpeak() {
        SilenceFines x = Due.chamber("member 1 3 9;member 4 3 1;member 4 3 0;member 4 3 9;", 4);
        is("7 CAN SPEAK: AIR 1; WORDS LEFT 1; not WORDS LEFT 0", x.beat(15), 11);
        is("7 CAN SPEAK: not AIR 0; not WORDS LEFT 0", x.beat(15), 8);
        is("7 who spoke has AIR one less", x.member(3, 1), 2);
        is("7 who spoke has WORDS LEFT one less", x.member(3, 2), 7);
        is("7 who could not RESTS: without AIR", x.member(0, 7), 1);
        is("7 who could not RESTS: without WORDS LEFT", x.member(1, 7), 1);
        is("7 who could not has its WORDS LEFT", x.member(0, 2), 8);
        is("7 WORDS LEFT are not below 0", x.member(1, 2) + x.member(2, 2), 0);
        is("7 AIR is not below 0", x.member(0, 1), 0);
        is("7 full AIR, no words: no RESTS", x.member(2, 7), 0);
        is("7 those alone that are to speak do", x.beat(6), 0);
    }

    /** Behind R beats of RESTS on end AIR is one more, each time anew, up to BREATH; then none is counted. */
    private static void rests() {
        for (int breath = 1; breath <= 4; breath++) {
            for (int rest = 1; rest <= 3; rest++) {
                String who = "7 BREATH " + breath + ", REST " + rest;
                SilenceFines x = Due.chamber("member " + breath + " " + rest + " 99;", 1);
                x.beat(0);
                is(who + ": full from the first, no RESTS", x.member(0, 7), 0);
                for (int i = 1; i <= breath; i++) {
                    x.beat(1);
                    is(who + ": AIR behind " + i + " beats", x.member(0, 1), breath - i);
                }
                for (int i = 1; i <= breath * rest + 4; i++) {
                    x.beat(0);
                    is(who + ": AIR behind " + i + " RESTS", x.member(0, 1), Math.min(i / rest, breath));
                    is(who + ": RESTS behind " + i, x.member(0, 7), i < breath * rest ? i % rest : 0);
                }
            }
        }
    }

    /** RESTS count on end: speaking ends them, however many they were. */
    private static void restsOnEnd() {
        SilenceFines x = Due.chamber("member 3 3 99;member 4 1 99;", 2);
        x.beat(1);
        x.beat(0);
        x.beat(2);
        is("7 two of three RESTS", x.member(0, 7), 2);
        x.beat(1);
        is("7 speaking: RESTS anew", x.member(0, 7), 0);
        is("7 speaking: AIR", x.member(0, 1), 1);
        x.beat(0);
        x.beat(0);
        is("7 two of three once more: AIR", x.member(0, 1), 1);
        x.beat(0);
        is("7 three on end: AIR", x.member(0, 1), 2);
        is("7 three on end: RESTS anew", x.member(0, 7), 0);
        x.beat(0);
        x.beat(0);
        x.beat(0);
        is("7 up to BREATH", x.member(0, 1), 3);
        x.beat(0);
        x.beat(0);
        x.beat(0);
        is("7 never above BREATH", x.member(0, 1), 3);
        x.beat(1);
        is("7 no RESTS of the time at full AIR", x.member(0, 7), 0);
        x.beat(0);
        x.beat(0);
        is("7 three are needed behind full AIR, too", x.member(0, 1), 2);
    }

    /** Nobody: a SILENCE; one: neither; two or more: an OVERLAP: each but the least pays O. */
    private static void overlaps() {
        for (int o : new int[] {0, 1, 99}) {
            for (int set = 1; set < 16; set++) {
                SilenceFines x = alike(4, 0, 5, o);
                x.beat(set);
                int least = Integer.numberOfTrailingZeros(set);
                for (int m = 0; m < 4; m++) {
                    int due = (set >> m & 1) == 1 && m != least ? o : 0;
                    is("7 O " + o + " by " + set + ": what " + m + " OWES", x.member(m, 3), due);
                }
            }
        }
        SilenceFines x = Due.chamber("member 1 1 0;member 1 1 9;member 1 1 9;law all 0 9;", 3);
        x.beat(3);
        owed("7 two are to speak, one does: no OVERLAP", x, 0, 0, 0);
        x.beat(7);
        owed("7 three are to speak, one does: no OVERLAP", x, 0, 0, 0);
        x.beat(0);
        x.beat(7);
        owed("7 three are to speak, two do: the least of these pays not", x, 0, 0, 9);
    }

    // ---- SILENCE is paid

    /** stopped: the least of who spoke in the latest beat that had a speaker; nobody, if none had. */
    private static void stopped() {
        for (int c : new int[] {0, 1, 99}) {
            SilenceFines x = alike(3, 0, c, 0);
            x.beat(0);
            x.beat(0);
            owed("7 stopped: none had a speaker", x, 0, 0, 0);
            x.beat(6);
            owed("7 stopped: nothing of the beats ahead of a speaker", x, 0, 0, 0);
            x.beat(0);
            owed("7 stopped: of several the least", x, 0, c, 0);
            x.beat(0);
            owed("7 stopped: each beat", x, 0, 2 * c, 0);
            x.beat(4);
            x.beat(0);
            owed("7 stopped: the latest, not the least ever", x, 0, 2 * c, c);
            x.beat(2);
            x.beat(1);
            x.beat(0);
            owed("7 stopped: the latest alone", x, c, 2 * c, c);
        }
        SilenceFines x = Due.chamber("member 1 3 0;member 1 3 9;member 1 3 9;law stopped 7 0;", 3);
        x.beat(7);
        x.beat(7);
        owed("7 stopped: the least who did speak, not who was to", x, 0, 7, 0);
    }

    /** began: not at once; as soon as somebody speaks the least who does, C for each beat not paid yet, once. */
    private static void began() {
        for (int c : new int[] {0, 1, 99}) {
            for (int silences = 0; silences <= 4; silences++) {
                SilenceFines x = alike(3, 1, c, 2);
                x.beat(1);
                for (int i = 0; i < silences; i++) {
                    x.beat(0);
                    owed("7 began: not at once", x, 0, 0, 0);
                }
                x.beat(6);
                owed("7 began: " + silences + " beats, the least who speaks", x, 0, c * silences, 2);
                x.beat(1);
                x.beat(4);
                owed("7 began: once", x, 0, c * silences, 2);
            }
        }
        SilenceFines x = alike(2, 1, 7, 0);
        x.beat(0);
        x.beat(2);
        owed("7 began: ahead of any speaker, too", x, 0, 7);
        SilenceFines y = Due.chamber("member 4 1 0;member 4 1 9;law began 7 0;", 2);
        y.beat(0);
        y.beat(1);
        y.beat(3);
        owed("7 began: who is to speak and cannot ends no SILENCE", y, 0, 14);
    }

    /** By whatever KIND then; what was paid by another KIND, or by nobody, is not paid again. */
    private static void beganThenAnother() {
        for (int kind = 0; kind < 3; kind++) {
            SilenceFines x = alike(2, 1, 9, 0);
            x.beat(0);
            x.beat(0);
            x.law(kind, 4, 0);
            x.beat(2);
            owed("7 began, then " + KINDS[kind] + ": by its C", x, 0, 8);
        }
        for (int kind = 0; kind < 3; kind += 2) {
            SilenceFines x = alike(2, kind, 6, 0);
            x.beat(1);
            x.beat(0);
            int first = x.member(0, 3);
            int second = x.member(1, 3);
            x.law(1, 6, 0);
            x.beat(2);
            owed(KINDS[kind] + ", then began: all was paid", x, first, second);
        }
        SilenceFines x = alike(2, 0, 6, 0);
        x.beat(0);
        x.law(1, 6, 0);
        x.beat(2);
        owed("7 stopped: what nobody was to pay is not left for who begins", x, 0, 0);
    }

    /** all: each MEMBER pays C / (how many there are), cut. */
    private static void all() {
        int[][] due = {{99, 49, 33, 24}, {0, 0, 0, 0}, {1, 0, 0, 0}, {2, 1, 0, 0}, {3, 1, 1, 0}, {4, 2, 1, 1}, {5, 2, 1, 1}};
        int[] c = {99, 0, 1, 2, 3, 4, 5};
        for (int i = 0; i < c.length; i++) {
            for (int members = 1; members <= 4; members++) {
                SilenceFines x = alike(members, 2, c[i], 0);
                x.beat(0);
                for (int m = 0; m < members; m++) {
                    is("7 all: C " + c[i] + ", one of " + members, x.member(m, 3), due[i][members - 1]);
                }
                x.beat(0);
                is("7 all: each beat by itself is cut", x.member(0, 3), 2 * due[i][members - 1]);
                x.beat(1);
                is("7 all: at once, nothing more as one begins", x.member(0, 3), 2 * due[i][members - 1]);
            }
        }
        SilenceFines x = Due.chamber("member 1 1 0;member 1 1 9;law all 9 0;", 2);
        x.beat(1);
        owed("7 all: who has no words pays, too", x, 4, 4);
    }

    /** THE BEAT counts all that went by, SAID those in which at least one spoke. */
    private static void counts() {
        SilenceFines x = alike(4, 0, 5, 1);
        int[] sets = {0, 15, 0, 1, 8, 0};
        int[] said = {0, 1, 1, 2, 3, 3};
        for (int i = 0; i < sets.length; i++) {
            is("7 THE BEAT is 0 at first", x.told(6), i);
            x.beat(sets[i]);
            is("7 THE BEAT", x.told(6), i + 1);
            is("7 SAID: one for several, too", x.told(7), said[i]);
        }
        x.beat(16);
        is("7 a refused beat is none", x.told(6), 6);
        SilenceFines long512 = new SilenceFines();
        for (int i = 0; i < 511; i++) {
            long512.beat(0);
        }
        is("7 THE BEAT by the 512th call", long512.told(6), 511);
    }

    /** The most that can be OWED by 512 calls stands in the answers, none wraps around. */
    private static void mostOwed() {
        SilenceFines x = Due.chamber("member 4 1 0;law began 99 0;", 1);
        for (int i = 0; i < 490; i++) {
            x.drift(999);
        }
        is("7 began: THE BEAT", x.told(6), 489510);
        is("7 began: beats of SILENCE", x.told(9), 489510);
        x.theme(0, 9);
        x.plan(1);
        is("7 began: in a RUN", x.run(0, 0), 48461490);
        is("7 began: by LAWS", x.laws(0), 48461490);
        is("7 began: by the BEST ANSWER", x.answer(0, 0), 0);
        x.beat(1);
        owed("7 began: the most", x, 48461490);
        SilenceFines y = Due.chamber("member 4 1 1;law stopped 99 0;", 1);
        y.beat(1);
        for (int i = 0; i < 490; i++) {
            y.drift(999);
        }
        owed("7 stopped: the most", y, 48461490);
        y.plan(0);
        is("7 what is OWED now is not counted: RUN", y.run(0, 0), 99);
        is("7 what is OWED now is not counted: LAWS", y.laws(2), 99);
        is("7 what is OWED now is not counted: BEST ANSWER", y.answer(0, 0), 99);
    }

    // ---- Promise 8: theme: WORDS LEFT become n (0 .. 99)

    private static void theme() {
        SilenceFines x = alike(2, 0, 5, 1);
        int was = 99;
        for (int n : new int[] {0, 99, 1, 98, 99, 0}) {
            is("8 theme(1, " + n + ")", x.theme(1, n), was);
            is("8 WORDS LEFT", x.member(1, 2), n);
            is("8 another's WORDS LEFT", x.member(0, 2), 99);
            was = n;
        }
        for (int n : new int[] {-1, 100, LOWEST, HIGHEST}) {
            is("8 theme(1, " + n + ")", x.theme(1, n), OUTSIDE);
        }
        for (int m : new int[] {-1, 2, 4, 32, LOWEST, HIGHEST}) {
            is("8 theme(" + m + ", 0)", x.theme(m, 0), UNKNOWN);
            is("8 theme(" + m + ", 100): UNKNOWN ahead of OUTSIDE", x.theme(m, 100), UNKNOWN);
            is("8 theme(" + m + ", -1): UNKNOWN ahead of OUTSIDE", x.theme(m, -1), UNKNOWN);
        }
        SilenceFines y = alike(2, 0, 5, 1);
        y.theme(1, 0);
        Due.alike("8 refused themes change nothing", x, y);
        SilenceFines z = Due.chamber("member 2 3 1;", 1);
        z.beat(1);
        z.beat(0);
        is("8 theme(0, 7) of no WORDS LEFT", z.theme(0, 7), 0);
        is("8 AIR is as it was", z.member(0, 1), 1);
        is("8 RESTS are as they were", z.member(0, 7), 1);
        is("8 it CAN SPEAK again", z.member(0, 4), 1);
        is("8 told in the text: as it was", z.member(0, 0), 2);
    }

    // ---- Promise 9: law: KIND 0 .. 2, C and O 0 .. 99

    private static void law() {
        SilenceFines x = alike(2, 1, 50, 60);
        int[] bad = {-1, 100, LOWEST, HIGHEST};
        for (int n : bad) {
            is("9 law(0, " + n + ", 0)", x.law(0, n, 0), OUTSIDE);
            is("9 law(0, 0, " + n + ")", x.law(0, 0, n), OUTSIDE);
        }
        for (int kind : new int[] {-1, 3, LOWEST, HIGHEST}) {
            is("9 law(" + kind + ", 0, 0)", x.law(kind, 0, 0), OUTSIDE);
        }
        Due.alike("9 refused laws change nothing", x, alike(2, 1, 50, 60));
        SilenceFines y = new SilenceFines();
        int was = 0;
        for (int kind : new int[] {2, 1, 0, 0, 1, 2}) {
            for (int n : new int[] {0, 1, 98, 99}) {
                is("9 law(" + kind + ", " + n + ", " + (99 - n) + ")", y.law(kind, n, 99 - n), was);
                is("9 KIND", y.told(1), kind);
                is("9 C", y.told(2), n);
                is("9 O", y.told(3), 99 - n);
                was = kind;
            }
        }
    }

    // ---- Promise 10: drift: n beats (1 .. 999); OUTSIDE, NOT: no MEMBERS

    private static void drift() {
        SilenceFines nobody = new SilenceFines();
        nobody.seed(99);
        for (int n : new int[] {0, -1, 1000, 1001, LOWEST, HIGHEST}) {
            is("10 drift(" + n + ") without MEMBERS: OUTSIDE ahead of NOT", nobody.drift(n), OUTSIDE);
        }
        is("10 drift(1) without MEMBERS", nobody.drift(1), NOT);
        is("10 drift(999) without MEMBERS", nobody.drift(999), NOT);
        is("10 refused: THE BEAT", nobody.told(6), 0);
        is("10 refused: THE SEED", nobody.seed(0), 99);
        for (int members = 1; members <= 4; members++) {
            SilenceFines x = alike(members, 0, 5, 1);
            for (int n : new int[] {0, -1, 1000, 1001, LOWEST, HIGHEST}) {
                is("10 drift(" + n + ")", x.drift(n), OUTSIDE);
            }
            Due.alike("10 refused drifts of " + members, x, alike(members, 0, 5, 1));
            SilenceFines y = alike(members, 0, 5, 1);
            int said = y.drift(1);
            is("10 drift(1): THE BEAT", y.told(6), 1);
            is("10 drift(1): how many were SAID", y.told(7), said);
            int more = y.drift(999);
            is("10 drift(999): THE BEAT", y.told(6), 1000);
            is("10 drift(999): how many of these were SAID", y.told(7), said + more);
            is("10 drift(998)", y.drift(998) >= 0 ? 1 : 0, 1);
            is("10 drift(998): THE BEAT", y.told(6), 1998);
        }
    }

    public static void main(String[] args) {
        sets();
        canSpeak();
        rests();
        restsOnEnd();
        overlaps();
        stopped();
        began();
        beganThenAnother();
        all();
        counts();
        mostOwed();
        theme();
        law();
        drift();
        Due.end("BeatEdgeTest");
    }
}
