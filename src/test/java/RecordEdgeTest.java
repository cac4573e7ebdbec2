/** Promises 20 to 23, the RECORD: each sentence that names a boundary, by itself. */
public final class RecordEdgeTest {
    private static final int NONE = -1, OUTSIDE = -1000000002, FULL = -1000000004;
    private static final int LOWEST = -2147483648, HIGHEST = 2147483647;

    private static void is(String call, long got, long want) {
        Due.is(call, got, want);
    }

    /** An object with a RECORD told as gap, length, gap, length .. */
    private static SilenceFines recorded(String text, int members, int... speeches) {
        SilenceFines x = Due.chamber(text, members);
        record(x, speeches);
        return x;
    }

    private static void record(SilenceFines x, int... speeches) {
        for (int i = 0; i < speeches.length; i += 2) {
            x.record(speeches[i], speeches[i + 1]);
        }
    }

    // ---- Promise 20: a SPEECH behind the RECORD: LENGTH 1 .. 4, GAP 0 .. 9, 7 at most

    private static void arguments() {
        SilenceFines x = Due.chamber("member 4 1 99;", 1);
        for (int n : new int[] {-1, 10, 11, LOWEST, HIGHEST}) {
            is("20 record(" + n + ", 1)", x.record(n, 1), OUTSIDE);
            is("20 record(" + n + ", 0)", x.record(n, 0), OUTSIDE);
        }
        for (int n : new int[] {0, 5, 6, -1, LOWEST, HIGHEST}) {
            is("20 record(0, " + n + ")", x.record(0, n), OUTSIDE);
            is("20 record(9, " + n + ")", x.record(9, n), OUTSIDE);
        }
        Due.alike("20 refused SPEECHES", x, Due.chamber("member 4 1 99;", 1));
        for (int gap = 0; gap <= 9; gap++) {
            for (int length = 1; length <= 4; length++) {
                SilenceFines y = Due.chamber("member 4 1 99;", 1);
                is("20 record(" + gap + ", " + length + ")", y.record(gap, length), 1);
                is("20 it fits", y.fits(), 1);
            }
        }
    }

    private static void seven() {
        SilenceFines x = Due.chamber("member 4 1 99;member 4 1 99;", 2);
        SilenceFines y = Due.chamber("member 4 1 99;member 4 1 99;", 2);
        for (int i = 1; i <= 7; i++) {
            is("20 SPEECH " + i, x.record(i, 1), i);
            is("20 told(11)", x.told(11), i);
            is("22 fits() of " + i, x.fits(), 1 << i);
            is("23 sure(" + (i - 1) + ") of " + i, x.sure(i - 1), NONE);
            is("23 sure(" + i + ") of " + i, x.sure(i), OUTSIDE);
            y.record(i, 1);
        }
        is("20 an eighth", x.record(0, 1), FULL);
        is("20 an eighth", x.record(9, 4), FULL);
        is("20 record(10, 1) of a full RECORD: OUTSIDE ahead of FULL", x.record(10, 1), OUTSIDE);
        is("20 record(-1, 1) of a full RECORD: OUTSIDE ahead of FULL", x.record(-1, 1), OUTSIDE);
        is("20 record(0, 0) of a full RECORD: OUTSIDE ahead of FULL", x.record(0, 0), OUTSIDE);
        is("20 record(0, 5) of a full RECORD: OUTSIDE ahead of FULL", x.record(0, 5), OUTSIDE);
        Due.alike("20 refused by a full RECORD", x, y);
    }

    // ---- Promise 21: no RECORD: how many SPEECHES it had

    private static void tear() {
        SilenceFines x = Due.chamber("member 4 1 99;member 4 1 99;", 2);
        is("21 tear() of an empty RECORD", x.tear(), 0);
        for (int n : new int[] {1, 6, 7, 0}) {
            for (int i = 0; i < n; i++) {
                x.record(0, 4);
            }
            is("21 tear() of " + n, x.tear(), n);
            is("21 told(11)", x.told(11), 0);
            is("21 fits() without SPEECHES", x.fits(), 1);
            is("21 sure(0) without SPEECHES", x.sure(0), OUTSIDE);
        }
        SilenceFines y = recorded("member 4 1 99;", 1, 0, 4, 9, 1);
        y.plan(1);
        y.tear();
        SilenceFines z = Due.chamber("member 4 1 99;", 1);
        z.plan(1);
        Due.alike("21 nothing but the RECORD is gone", y, z);
    }

    // ---- Promise 22: FITS

    private static void none() {
        is("22 without SPEECHES", Due.chamber("member 4 1 99;", 1).fits(), 1);
        is("22 without SPEECHES, nobody CAN SPEAK", Due.chamber("member 4 1 0;", 1).fits(), 1);
        is("22 without SPEECHES or MEMBERS", new SilenceFines().fits(), 1);
        SilenceFines nobody = new SilenceFines();
        nobody.record(9, 1);
        is("22 a SPEECH without MEMBERS", nobody.fits(), 0);
    }

    /** Side by side without a GAP by unlike ones; with a GAP of one by any; the first by any. */
    private static void unlike() {
        for (int members = 1; members <= 4; members++) {
            String text = "member 4 1 99;".repeat(members);
            int by = members;
            SilenceFines x = recorded(text, members, 0, 1);
            is("22 the first by any of " + members, x.fits(), by);
            x.record(0, 1);
            by *= members - 1;
            is("22 no GAP: by unlike ones of " + members, x.fits(), by);
            x.record(1, 1);
            by *= members;
            is("22 a GAP of 1: by any of " + members, x.fits(), by);
            x.record(9, 1);
            by *= members;
            is("22 a GAP of 9: by any of " + members, x.fits(), by);
            x.record(0, 1);
            by *= members - 1;
            is("22 no GAP once more, of " + members, x.fits(), by);
        }
        SilenceFines most = recorded("member 4 1 99;".repeat(4), 4, 9, 4, 9, 4, 9, 4, 9, 4, 9, 4, 9, 4, 9, 4);
        is("22 the most ways", most.fits(), 16384);
        SilenceFines spoke = recorded("member 4 1 99;".repeat(2), 2, 0, 1);
        spoke.beat(1);
        is("22 the first without a GAP, by who spoke in the latest beat, too", spoke.fits(), 2);
    }

    /** Each LENGTH needs so much AIR and so many WORDS LEFT: just enough, and one too few. */
    private static void lengths() {
        for (int length = 1; length <= 4; length++) {
            for (int breath = 1; breath <= 4; breath++) {
                SilenceFines x = recorded("member " + breath + " 1 99;", 1, 9, length);
                is("22 LENGTH " + length + " by BREATH " + breath, x.fits(), breath >= length ? 1 : 0);
                is("23 LENGTH " + length + " by BREATH " + breath, x.sure(0), breath >= length ? 0 : NONE);
            }
            for (int words = 0; words <= 5; words++) {
                SilenceFines x = recorded("member 4 1 " + words + ";", 1, 0, length);
                is("22 LENGTH " + length + " of " + words + " words", x.fits(), words >= length ? 1 : 0);
                SilenceFines y = recorded("member 4 1 99;", 1, 0, length);
                y.theme(0, words);
                is("22 LENGTH " + length + " of " + words + " WORDS LEFT", y.fits(), words >= length ? 1 : 0);
                SilenceFines z = recorded("member 4 1 99;", 1, 0, length, 9, 1);
                z.theme(0, words);
                is("22 words of both SPEECHES: " + length + " and 1 of " + words, z.fits(), words >= length + 1 ? 1 : 0);
            }
        }
    }

    /** AIR comes back in GAPS and in others' SPEECHES, by REST; not above BREATH: for each seat alike. */
    private static void airBack() {
        for (int seat = 0; seat < 4; seat++) {
            String others = "member 4 1 0;".repeat(seat);
            for (int rest = 1; rest <= 3; rest++) {
                for (int gap = 1; gap <= 9; gap++) {
                    for (int length = 1; length <= 4; length++) {
                        SilenceFines x = recorded(others + "member 4 " + rest + " 99;", seat + 1, 0, 4, gap, length);
                        boolean fits = Math.min(gap / rest, 4) >= length;
                        String when = seat + ", REST " + rest + ", 4 beats, a GAP of " + gap + ", " + length + " beats";
                        is("22 " + when, x.fits(), fits ? 1 : 0);
                        is("23 " + when, x.sure(1), fits ? seat : NONE);
                    }
                }
            }
        }
        for (int other = 1; other <= 4; other++) {
            SilenceFines x = recorded("member 2 2 99;member 4 1 99;", 2, 0, 2, 0, other, 0, 1);
            // 1 then 0 then 1 always fits while 0 can speak so long; 0 then 1 then 0 needs two beats of rest.
            int ways = (other <= 2 ? 1 : 0) + (other >= 2 ? 1 : 0);
            is("22 AIR comes back in another's SPEECH of " + other, x.fits(), ways);
        }
        SilenceFines x = recorded("member 2 1 99;", 1, 9, 2, 9, 2, 1, 1);
        is("22 AIR not above BREATH: 2 again", x.fits(), 1);
        x.record(1, 2);
        is("22 AIR not above BREATH: one beat of REST is one of AIR", x.fits(), 0);
    }

    /** From AIR, RESTS and WORDS LEFT as they are now; speaking ends RESTS. */
    private static void fromNow() {
        SilenceFines x = recorded("member 3 3 99;", 1, 0, 3);
        is("22 full AIR", x.fits(), 1);
        x.beat(1);
        is("22 AIR of now", x.fits(), 0);
        x.tear();
        x.record(2, 3);
        is("22 two beats of a GAP are not three of REST", x.fits(), 0);
        x.beat(0);
        is("22 RESTS of now and the GAP", x.fits(), 1);
        SilenceFines y = recorded("member 3 3 99;", 1, 0, 1, 2, 3);
        y.beat(1);
        y.beat(0);
        y.beat(0);
        is("22 speaking ends RESTS of now", y.fits(), 0);
        y.tear();
        record(y, 0, 1, 3, 2);
        is("22 RESTS anew behind a SPEECH", y.fits(), 1);
        SilenceFines z = recorded("member 4 1 5;", 1, 0, 4);
        z.beat(1);
        z.beat(0);
        is("22 AIR is back, four words are left", z.fits(), 1);
        z.theme(0, 3);
        is("22 three WORDS LEFT", z.fits(), 0);
        SilenceFines tried = recorded("member 3 3 99;member 2 1 4;", 2, 0, 2, 0, 1, 2, 2, 0, 1);
        tried.beat(3);
        SilenceFines same = recorded("member 3 3 99;member 2 1 4;", 2, 0, 2, 0, 1, 2, 2, 0, 1);
        same.beat(3);
        for (int i = 0; i < 4; i++) {
            tried.fits();
            tried.sure(i);
        }
        Due.alike("22 fits() and sure() change nothing", tried, same);
    }

    // ---- Promise 23: SURE; NONE; OUTSIDE: not so many SPEECHES

    private static void sure() {
        SilenceFines x = Due.chamber("member 2 2 20;member 3 1 9;member 1 3 50;", 3);
        for (int i : new int[] {0, -1, 1, 7, LOWEST, HIGHEST}) {
            is("23 sure(" + i + ") of an empty RECORD", x.sure(i), OUTSIDE);
        }
        record(x, 0, 2, 0, 3);
        for (int i : new int[] {-1, 2, 3, 6, 7, LOWEST, HIGHEST}) {
            is("23 sure(" + i + ") of two SPEECHES", x.sure(i), OUTSIDE);
        }
        is("23 the one who can: 0", x.sure(0), 0);
        is("23 the one who can: 1", x.sure(1), 1);
        record(x, 2, 1);
        is("23 not one alone", x.sure(2), NONE);
        is("23 in all of the ways", x.sure(0), 0);
        record(x, 0, 4);
        for (int i = 0; i < 4; i++) {
            is("23 no ways: sure(" + i + ")", x.sure(i), NONE);
        }
        is("23 sure(4)", x.sure(4), OUTSIDE);
        for (int who = 0; who < 4; who++) {
            SilenceFines y = Due.chamber("member 1 3 99;".repeat(4), 4);
            for (int m = 0; m < 4; m++) {
                y.theme(m, m == who ? 3 : 0);
            }
            record(y, 0, 1, 3, 1, 3, 1);
            for (int i = 0; i < 3; i++) {
                is("23 " + who + " alone has words: sure(" + i + ")", y.sure(i), who);
            }
            y.record(9, 1);
            is("23 out of words", y.sure(0), NONE);
        }
        // The first and third by any, the second by one alone, whichever way goes ahead of it or behind it.
        for (int who = 0; who < 3; who++) {
            StringBuilder text = new StringBuilder();
            for (int m = 0; m < 3; m++) {
                text.append("member ").append(m == who ? 4 : 1).append(" 1 99;");
            }
            SilenceFines y = recorded(text.toString(), 3, 0, 1, 9, 4, 9, 1);
            is("23 nine ways", y.fits(), 9);
            is("23 the second in all of them", y.sure(1), who);
            is("23 the first in none alone", y.sure(0), NONE);
            is("23 the third in none alone", y.sure(2), NONE);
        }
        SilenceFines nobody = new SilenceFines();
        nobody.record(0, 1);
        is("23 without MEMBERS", nobody.sure(0), NONE);
        is("23 without MEMBERS: sure(1)", nobody.sure(1), OUTSIDE);
    }

    public static void main(String[] args) {
        arguments();
        seven();
        tear();
        none();
        unlike();
        lengths();
        airBack();
        fromNow();
        sure();
        Due.end("RecordEdgeTest");
    }
}
