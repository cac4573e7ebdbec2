import java.util.Random;

/** Random runs of calls, each answer held against the literal model's. */
public final class ModelTest {
    private static final int[] ODD = {-2147483648, -1000000001, -3, -2, -1, 0, 1, 2, 3, 4, 5, 7, 8, 9, 10, 12, 15, 16, 29,
        30, 31, 50, 51, 98, 99, 100, 101, 400, 999, 1000, 65536, 2147483646, 2147483647};
    private static final String[] WORDS = {"member", "law", "cough", "stopped", "began", "all", "members", "la", "a",
        ";", ";", " ", " ", "0", "1", "2", "3", "4", "5", "9", "00", "004", "0001", "99", "100", "101", "999", "1000", "-",
        "\t", "M", "\u00e9", "\0", "1 2 3", "0 0", "member 1 1 1;", "law all 1 1;", "cough 0;"};

    private final Random random;
    private final SilenceFines x = new SilenceFines();
    private final Model y = new Model();
    private final StringBuilder story = new StringBuilder();
    private int calls;

    private ModelTest(long number) {
        random = new Random(number);
        story.append("run ").append(number).append(":");
    }

    private void is(String call, int got, int want) {
        calls++;
        story.append(' ').append(call);
        if (got != want) {
            Due.is(story.toString(), got, want);
        }
    }

    private int below(int n) {
        return random.nextInt(n);
    }

    /** Most often a number of 0 .. n - 1, else any odd one. */
    private int some(int n) {
        return below(12) == 0 ? ODD[below(ODD.length)] : below(n);
    }

    private String blanks(boolean needed) {
        int n = below(5) == 0 ? below(3) : 0;
        return " ".repeat(needed ? Math.max(n, 1) : n);
    }

    private String number(int low, int high) {
        int n = low + below(high - low + 1);
        String s = Integer.toString(n);
        return s.length() < 3 && below(9) == 0 ? "0" + s : s;
    }

    private String member() {
        return "member" + blanks(false) + number(1, 4) + blanks(true) + number(1, 3) + blanks(true)
            + (below(3) == 0 ? number(0, 6) : number(0, 99));
    }

    private String clause(int what) {
        switch (what) {
            case 0: return "law" + blanks(true) + new String[] {"stopped", "began", "all"}[below(3)] + blanks(false)
                + number(0, 99) + blanks(true) + number(0, 99);
            case 1: return "cough" + blanks(false) + (below(2) == 0 ? number(0, 30) : number(0, 100));
            default: return member();
        }
    }

    private String sound() {
        StringBuilder s = new StringBuilder(blanks(false));
        int members = below(10) == 0 ? 0 : 1 + below(4);
        int law = below(4) == 0 ? -1 : below(members + 1);
        int cough = below(3) == 0 ? -1 : below(members + 1);
        for (int i = 0; i <= members; i++) {
            if (i == law) {
                s.append(clause(0)).append(blanks(false)).append(';').append(blanks(false));
            }
            if (i == cough) {
                s.append(clause(1)).append(blanks(false)).append(';').append(blanks(false));
            }
            if (i < members) {
                s.append(clause(2)).append(blanks(false)).append(';').append(blanks(false));
            }
        }
        return s.toString();
    }

    private String faulty() {
        StringBuilder s = new StringBuilder();
        if (below(3) == 0) {
            for (int i = below(14); i >= 0; i--) {
                s.append(WORDS[below(WORDS.length)]);
                s.append(below(3) == 0 ? " " : "");
            }
            return s.toString();
        }
        s.append(sound());
        if (below(3) == 0) {
            s.append(sound());
        }
        for (int i = below(3); i > 0 && s.length() > 0; i--) {
            int at = below(s.length());
            if (below(2) == 0) {
                s.deleteCharAt(at);
            } else {
                s.insert(at, WORDS[below(WORDS.length)]);
            }
        }
        return s.toString();
    }

    private void tell(String text) {
        int at = 0;
        while (at < text.length()) {
            String part = text.substring(at, Math.min(text.length(), at + 1 + below(8)));
            // What stands above the lowest bytes is not looked at.
            long bytes = Due.bytes(part) | (part.length() < 8 ? random.nextLong() << 8 * part.length() : 0);
            is("feed(" + part + ")", x.feed(part.length(), bytes), y.feed(part.length(), bytes));
            at += part.length();
        }
    }

    private void chamber() {
        is("told(5)", x.told(5), y.told(5));
        is("chamber()", x.chamber(), y.chamber());
        is("fault()", x.fault(), y.fault());
    }

    private void look() {
        int what = some(12);
        is("told(" + what + ")", x.told(what), y.told(what));
        int m = some(4);
        what = some(8);
        is("member(" + m + "," + what + ")", x.member(m, what), y.member(m, what));
    }

    private void lookAtAll() {
        for (int what = 0; what < 12; what++) {
            is("told(" + what + ")", x.told(what), y.told(what));
        }
        for (int m = 0; m < y.told(0); m++) {
            for (int what = 0; what < 8; what++) {
                is("member(" + m + "," + what + ")", x.member(m, what), y.member(m, what));
            }
        }
    }

    private void beats() {
        int a = some(16);
        int b = some(100);
        int c = some(100);
        switch (below(8)) {
            case 0: is("theme(" + a % 5 + "," + b + ")", x.theme(a % 5, b), y.theme(a % 5, b)); break;
            case 1: a = some(3); is("law(" + a + "," + b + "," + c + ")", x.law(a, b, c), y.law(a, b, c)); break;
            case 2: a = below(30) == 0 ? 990 + below(12) : some(25); is("drift(" + a + ")", x.drift(a), y.drift(a)); break;
            default: a &= below(4) == 0 ? -1 : below(16); is("beat(" + a + ")", x.beat(a), y.beat(a));
        }
    }

    private void plans() {
        int a = some(16);
        int b = some(5);
        switch (below(14)) {
            case 0: if (below(3) == 0) { is("drop()", x.drop(), y.drop()); } break;
            case 1: case 2: a = some(5) - 1; is("run(" + a + "," + b + ")", x.run(a, b), y.run(a, b)); break;
            case 3: is("follow()", x.follow(), y.follow()); break;
            case 4: is("ever(" + a + ")", x.ever(a), y.ever(a)); break;
            case 5: is("voices()", x.voices(), y.voices()); break;
            case 6: case 7:
                a = some(4);
                b = some(2);
                is("answer(" + a + "," + b + ")", x.answer(a, b), y.answer(a, b));
                break;
            case 8: b = some(3); is("laws(" + b + ")", x.laws(b), y.laws(b)); break;
            case 9: a = some(51); b = some(2); is("premium(" + a + "," + b + ")", x.premium(a, b), y.premium(a, b)); break;
            default: a &= below(3) == 0 ? -1 : below(16); is("plan(" + a + ")", x.plan(a), y.plan(a));
        }
    }

    private void records() {
        int a = below(2) == 0 ? some(10) : some(3);
        int b = below(2) == 0 ? some(5) : 1 + below(2);
        switch (below(6)) {
            case 0: if (below(3) == 0) { is("tear()", x.tear(), y.tear()); } break;
            case 1: is("fits()", x.fits(), y.fits()); break;
            case 2: a = some(7); is("sure(" + a + ")", x.sure(a), y.sure(a)); break;
            default: is("record(" + a + "," + b + ")", x.record(a, b), y.record(a, b));
        }
    }

    private void others() {
        int a = some(2);
        int v = below(3) == 0 ? random.nextInt() : ODD[below(ODD.length)];
        switch (below(5)) {
            case 0: is("seed(" + v + ")", x.seed(v), y.seed(v)); break;
            case 1: case 2: is("keep(" + a + ")", x.keep(a), y.keep(a)); break;
            case 3: is("goBack(" + a + ")", x.goBack(a), y.goBack(a)); break;
            default: if (below(4) == 0) { tell(below(2) == 0 ? sound() : faulty()); chamber(); }
        }
    }

    private void sitting() {
        tell(sound());
        chamber();
        int plans = below(8);
        int records = below(8);
        while (calls < 360) {
            int what = below(20);
            if (what < 4) {
                look();
            } else if (what < 5 + plans) {
                plans();
            } else if (what < 6 + plans + records / 2) {
                records();
            } else if (what == 19) {
                others();
            } else {
                beats();
            }
        }
        lookAtAll();
    }

    private void texts() {
        while (calls < 420) {
            tell(faulty());
            int n = some(9);
            long bytes = Due.bytes("; 11 22 ");
            is("feed(" + n + ")", x.feed(n, bytes), y.feed(n, bytes));
            chamber();
        }
        lookAtAll();
    }

    public static void main(String[] args) {
        for (int i = 0; i < 1500; i++) {
            new ModelTest(i).sitting();
        }
        for (int i = 0; i < 1000; i++) {
            new ModelTest(100000 + i).texts();
        }
        Due.end("ModelTest");
    }
}
