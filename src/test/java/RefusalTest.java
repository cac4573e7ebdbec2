import java.util.ArrayList;
import java.util.List;

/**
 * REFUSALS: each that a call may answer, in states of all kinds; of several the
 * first in the order UNKNOWN, OUTSIDE, NOT, FULL; what is refused changes
 * nothing: an object that was refused answers on like one that never was.
 */
public final class RefusalTest {
    private static final int NONE = -1, UNKNOWN = -1000000001, OUTSIDE = -1000000002, NOT = -1000000003, FULL = -1000000004;
    private static final int LOWEST = -2147483648, HIGHEST = 2147483647;

    private interface Call {
        int on(SilenceFines x);
    }

    private record Row(String name, int due, Call call) {
    }

    private final String state;
    private final Due.Calls past;
    private final List<Row> rows = new ArrayList<>();

    private RefusalTest(String state, Due.Calls past) {
        this.state = state;
        this.past = past;
    }

    private void row(String name, int due, Call call) {
        rows.add(new Row(name, due, call));
    }

    private SilenceFines made() {
        SilenceFines x = new SilenceFines();
        past.on(x);
        return x;
    }

    /** Refused in every state: numbers out of their bounds, MEMBERS and IMAGES that there never are. */
    private void always() {
        for (int n : new int[] {LOWEST, -1, 0, 9, HIGHEST}) {
            row("feed(" + n + ", 59)", OUTSIDE, x -> x.feed(n, 59));
        }
        for (int n : new int[] {LOWEST, -1, 12, HIGHEST}) {
            row("told(" + n + ")", OUTSIDE, x -> x.told(n));
        }
        for (int m : new int[] {LOWEST, -2, 4, 31, 32, HIGHEST}) {
            unknownMember(m);
            row("run(" + m + ", 0)", UNKNOWN, x -> x.run(m, 0));
            row("run(" + m + ", 9)", UNKNOWN, x -> x.run(m, 9));
        }
        unknownMember(-1);
        for (int set : new int[] {LOWEST, LOWEST | 1, -16, -1, 16, 17, 31, 1 << 30, HIGHEST}) {
            unknownSet(set);
        }
        for (int n : new int[] {LOWEST, -1, 3, HIGHEST}) {
            row("law(" + n + ", 5, 5)", OUTSIDE, x -> x.law(n, 5, 5));
            row("laws(" + n + ")", OUTSIDE, x -> x.laws(n));
        }
        for (int n : new int[] {LOWEST, -1, 100, HIGHEST}) {
            row("law(0, " + n + ", 5)", OUTSIDE, x -> x.law(0, n, 5));
            row("law(0, 5, " + n + ")", OUTSIDE, x -> x.law(0, 5, n));
        }
        for (int n : new int[] {LOWEST, -1, 0, 1000, HIGHEST}) {
            row("drift(" + n + ")", OUTSIDE, x -> x.drift(n));
        }
        for (int n : new int[] {LOWEST, -2, -1, 4, HIGHEST}) {
            row("run(-1, " + n + ")", OUTSIDE, x -> x.run(NONE, n));
        }
        for (int n : new int[] {LOWEST, -1, 51, HIGHEST}) {
            row("premium(" + n + ", 0)", OUTSIDE, x -> x.premium(n, 0));
        }
        for (int n : new int[] {LOWEST, -1, 2, HIGHEST}) {
            row("premium(1, " + n + ")", OUTSIDE, x -> x.premium(1, n));
            row("keep(" + n + ")", UNKNOWN, x -> x.keep(n));
            row("goBack(" + n + ")", UNKNOWN, x -> x.goBack(n));
        }
        for (int n : new int[] {LOWEST, -1, 10, HIGHEST}) {
            row("record(" + n + ", 1)", OUTSIDE, x -> x.record(n, 1));
        }
        for (int n : new int[] {LOWEST, -1, 0, 5, HIGHEST}) {
            row("record(0, " + n + ")", OUTSIDE, x -> x.record(0, n));
        }
        for (int n : new int[] {LOWEST, -1, 7, HIGHEST}) {
            row("sure(" + n + ")", OUTSIDE, x -> x.sure(n));
        }
        for (int n : new int[] {LOWEST, -1}) {
            row("seed(" + n + ")", OUTSIDE, x -> x.seed(n));
        }
    }

    /** UNKNOWN comes ahead of OUTSIDE. */
    private void unknownMember(int m) {
        for (int what : new int[] {0, 7, 8, -1}) {
            row("member(" + m + ", " + what + ")", UNKNOWN, x -> x.member(m, what));
        }
        for (int n : new int[] {0, 99, 100, -1}) {
            row("theme(" + m + ", " + n + ")", UNKNOWN, x -> x.theme(m, n));
        }
        for (int what : new int[] {0, 1, 2, -1}) {
            row("answer(" + m + ", " + what + ")", UNKNOWN, x -> x.answer(m, what));
        }
    }

    private void unknownSet(int set) {
        row("beat(" + set + ")", UNKNOWN, x -> x.beat(set));
        row("plan(" + set + ")", UNKNOWN, x -> x.plan(set));
        row("ever(" + set + ")", UNKNOWN, x -> x.ever(set));
    }

    /** Refused where there are so many MEMBERS, SPEECHES. */
    private void by(int members, int speeches) {
        for (int m = members; m < 4; m++) {
            int one = m;
            unknownMember(m);
            row("run(" + m + ", 0)", UNKNOWN, x -> x.run(one, 0));
            unknownSet(1 << m);
            unknownSet(1 << m | 1);
        }
        for (int m = 0; m < members; m++) {
            int one = m;
            for (int what : new int[] {LOWEST, -1, 8, HIGHEST}) {
                row("member(" + m + ", " + what + ")", OUTSIDE, x -> x.member(one, what));
            }
            for (int n : new int[] {LOWEST, -1, 100, HIGHEST}) {
                row("theme(" + m + ", " + n + ")", OUTSIDE, x -> x.theme(one, n));
            }
            for (int what : new int[] {LOWEST, -1, 2, HIGHEST}) {
                row("answer(" + m + ", " + what + ")", OUTSIDE, x -> x.answer(one, what));
            }
        }
        if (members == 0) {
            row("drift(1)", NOT, x -> x.drift(1));
            row("drift(999)", NOT, x -> x.drift(999));
        }
        for (int i = speeches; i < 8; i++) {
            int one = i;
            row("sure(" + i + ")", OUTSIDE, x -> x.sure(one));
        }
    }

    private void notKept(int i) {
        row("goBack(" + i + ")", NOT, x -> x.goBack(i));
    }

    /** FULL comes last: the calls that are OUTSIDE or UNKNOWN stand in always() and are that in full states, too. */
    private void full() {
        for (int n = 1; n <= 8; n++) {
            int bytes = n;
            row("feed(" + n + ", 59)", FULL, x -> x.feed(bytes, 59));
        }
        row("plan(0)", FULL, x -> x.plan(0));
        row("plan(15)", FULL, x -> x.plan(15));
        row("record(0, 1)", FULL, x -> x.record(0, 1));
        row("record(9, 4)", FULL, x -> x.record(9, 4));
    }

    private void hold() {
        for (Row row : rows) {
            SilenceFines x = made();
            int fault = x.fault();
            String when = state + ": " + row.name;
            Due.is(when, row.call.on(x), row.due);
            Due.is(when + ": fault() behind it", x.fault(), fault);
            Due.alike(when, x, made());
        }
    }

    private static void chamber(SilenceFines x, String text) {
        Due.feed(x, text);
        x.chamber();
    }

    private static void fillAll(SilenceFines x) {
        for (int i = 0; i < 50; i++) {
            x.feed(8, Due.bytes("        "));
        }
        for (int i = 0; i < 30; i++) {
            x.plan(i * 7 % 16);
        }
        for (int i = 0; i < 7; i++) {
            x.record(1 + i, 1 + i % 2);
        }
    }

    public static void main(String[] args) {
        RefusalTest empty = new RefusalTest("a new object", x -> { });
        empty.by(0, 0);
        empty.notKept(0);
        empty.notKept(1);
        RefusalTest lonely = new RefusalTest("one MEMBER, image 1, a FAULT", x -> {
            chamber(x, "member 2 3 9;law began 9 9;cough 50;");
            x.seed(99);
            x.beat(1);
            x.keep(1);
            x.beat(0);
            x.plan(1);
            x.record(0, 1);
            chamber(x, "member 2 3 9; cough 101;");
            Due.feed(x, "law all 1 1");
        });
        lonely.by(1, 1);
        lonely.notKept(0);
        RefusalTest some = new RefusalTest("three MEMBERS, image 0", x -> {
            chamber(x, "member 2 2 20;member 3 1 9;member 1 3 50;law stopped 6 2;cough 10;");
            x.seed(HIGHEST);
            x.beat(7);
            x.beat(0);
            x.keep(0);
            x.law(2, 99, 98);
            x.theme(1, 4);
            x.plan(2);
            x.plan(0);
            x.record(0, 1);
            x.record(0, 1);
            x.record(3, 4);
        });
        some.by(3, 3);
        some.notKept(1);
        RefusalTest full = new RefusalTest("four MEMBERS, all full", x -> {
            chamber(x, "member 4 1 99;member 3 2 98;member 2 3 97;member 1 1 96;law all 7 5;cough 7;");
            x.keep(0);
            x.drift(30);
            x.keep(1);
            x.law(1, 3, 2);
            x.drift(5);
            fillAll(x);
        });
        full.by(4, 7);
        full.full();
        for (RefusalTest test : List.of(empty, lonely, some, full)) {
            test.always();
            test.hold();
        }
        Due.end("RefusalTest");
    }
}
