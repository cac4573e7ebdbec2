/** Promises 1 to 6 and the text of THE CHAMBER: each sentence of the document that names a boundary, by itself. */
public final class ChamberEdgeTest {
    private static final int NONE = -1, UNKNOWN = -1000000001, OUTSIDE = -1000000002, NOT = -1000000003, FULL = -1000000004;
    private static final int LOWEST = -2147483648, HIGHEST = 2147483647;
    private static final String ONE = "member 1 1 1;", FOUR = ONE + ONE + ONE + ONE;

    private static void is(String call, long got, long want) {
        Due.is(call, got, want);
    }

    /** What chamber() answers for a text, and where its FAULT is. */
    private static void text(String text, int answer, int place) {
        SilenceFines x = new SilenceFines();
        Due.feed(x, text);
        is("chamber() of '" + text + "'", x.chamber(), answer);
        is("fault() of '" + text + "'", x.fault(), place);
    }

    // ---- Promise 1: a new object: no MEMBERS; law stopped 5 1

    private static void newObject() {
        SilenceFines x = new SilenceFines();
        int[] told = {0, 0, 5, 1, 0, 0, 0, 0, 0, 0, 0, 0};
        for (int what = 0; what < told.length; what++) {
            is("1 new: told(" + what + ")", x.told(what), told[what]);
        }
        for (int m = -1; m <= 4; m++) {
            is("1 new: member(" + m + ", 0)", x.member(m, 0), UNKNOWN);
            is("1 new: theme(" + m + ", 0)", x.theme(m, 0), UNKNOWN);
            is("1 new: answer(" + m + ", 0)", x.answer(m, 0), UNKNOWN);
        }
        int[] run = {0, 0, 0, NONE};
        for (int what = 0; what < 4; what++) {
            is("1 new: run(-1, " + what + ")", x.run(NONE, what), run[what]);
        }
        is("1 new: run(0, 0)", x.run(0, 0), UNKNOWN);
        is("1 new: fault()", x.fault(), NONE);
        is("1 new: follow()", x.follow(), 0);
        is("1 new: ever(0)", x.ever(0), 0);
        is("1 new: voices()", x.voices(), NONE);
        is("1 new: premium(50, 0)", x.premium(50, 0), 0);
        is("1 new: fits()", x.fits(), 1);
        is("1 new: sure(0)", x.sure(0), OUTSIDE);
        is("1 new: drop()", x.drop(), 0);
        is("1 new: tear()", x.tear(), 0);
        is("1 new: seed(0)", x.seed(0), 0);
        is("1 new: goBack(0)", x.goBack(0), NOT);
        is("1 new: goBack(1)", x.goBack(1), NOT);
        Due.alike("1 new: as a chamber told by an empty text", x, Due.chamber("", 0));
    }

    /** Beats of nobody: each KIND of SILENCE has nobody to pay it. */
    private static void nobody() {
        for (int kind = 0; kind < 3; kind++) {
            SilenceFines x = new SilenceFines();
            x.law(kind, 99, 99);
            is("1 nobody: beat(0)", x.beat(0), 0);
            is("1 nobody: beat(1)", x.beat(1), UNKNOWN);
            is("1 nobody: plan(0)", x.plan(0), 1);
            is("1 nobody: plan(1)", x.plan(1), UNKNOWN);
            is("1 nobody: ever(1)", x.ever(1), UNKNOWN);
            is("1 nobody: run(-1, 0)", x.run(NONE, 0), 1);
            is("1 nobody: run(-1, 3)", x.run(NONE, 3), 0);
            is("1 nobody: laws(" + kind + ")", x.laws(kind), 0);
            is("1 nobody: follow()", x.follow(), 1);
            is("1 nobody: THE BEAT", x.told(6), 2);
            is("1 nobody: SAID", x.told(7), 0);
            is("1 nobody: beats of SILENCE", x.told(9), 2);
            is("1 nobody: drift(1)", x.drift(1), NOT);
            is("1 nobody: record(0, 1)", x.record(0, 1), 1);
            is("1 nobody: fits()", x.fits(), 0);
            is("1 nobody: sure(0)", x.sure(0), NONE);
        }
    }

    // ---- Promise 2: the lowest n bytes (1 .. 8), the highest of these first; OUTSIDE, FULL (400)

    private static void feedBytes() {
        for (int n = 1; n <= 8; n++) {
            SilenceFines x = new SilenceFines();
            StringBuilder text = new StringBuilder("cough 42;");
            while (text.length() % n > 0) {
                text.append(' ');
            }
            for (int at = 0; at < text.length(); at += n) {
                // Above the lowest n bytes all bits are set, which must not be looked at.
                long above = n < 8 ? -1L << 8 * n : 0;
                is("2 feed(" + n + ") to " + (at + n), x.feed(n, Due.bytes(text.substring(at, at + n)) | above), at + n);
            }
            is("2 feed(" + n + "): chamber()", x.chamber(), 0);
            is("2 feed(" + n + "): told(4)", x.told(4), 42);
        }
    }

    private static void feedNumber() {
        for (int n : new int[] {0, 9, -1, 10, 16, LOWEST, HIGHEST}) {
            SilenceFines x = new SilenceFines();
            is("2 feed(" + n + ") of an empty text", x.feed(n, 59), OUTSIDE);
            is("2 feed(" + n + "): told(5)", x.told(5), 0);
            fill(x, 400);
            is("2 feed(" + n + ") of a full text: OUTSIDE ahead of FULL", x.feed(n, 59), OUTSIDE);
            is("2 feed(" + n + "): told(5) of a full text", x.told(5), 400);
            is("2 feed(" + n + "): nothing came into the text", x.chamber(), 0);
        }
    }

    /** Blanks up to a length. */
    private static void fill(SilenceFines x, int length) {
        for (int at = x.told(5); at < length; at = x.told(5)) {
            int n = Math.min(8, length - at);
            x.feed(n, Due.bytes("        ".substring(0, n)));
        }
    }

    private static void feedFull() {
        for (int n = 1; n <= 8; n++) {
            SilenceFines x = new SilenceFines();
            fill(x, 400 - n + 1);
            is("2 feed(" + n + "), one byte too much", x.feed(n, Due.bytes("xxxxxxxx")), FULL);
            is("2 told(5) is as it was", x.told(5), 401 - n);
            if (n > 1) {
                is("2 feed(" + (n - 1) + ") up to 400", x.feed(n - 1, Due.bytes("       ")), 400);
            }
            is("2 feed(1) behind 400", x.feed(1, 32), FULL);
            is("2 feed(" + n + ") behind 400", x.feed(n, 32), FULL);
            is("2 told(5) at 400", x.told(5), 400);
            is("2 chamber(): nothing of the refused bytes came", x.chamber(), 0);
            is("2 the text is empty: feed(" + n + ")", x.feed(n, 0), n);
        }
        for (int n = 1; n <= 8; n++) {
            SilenceFines x = new SilenceFines();
            fill(x, 400 - n);
            is("2 feed(" + n + ") to 400", x.feed(n, Due.bytes("        ")), 400);
        }
    }

    /** All 400 bytes are read: a clause that ends with the last of them, and one that misses its ';' there. */
    private static void feedTextOf400() {
        SilenceFines x = new SilenceFines();
        fill(x, 388);
        Due.feed(x, "law all 2 3;");
        is("2 told(5)", x.told(5), 400);
        is("2 chamber() of 400 bytes", x.chamber(), 0);
        is("2 the clause at the end of 400 bytes", x.told(1) * 100 + x.told(2) * 10 + x.told(3), 223);
        fill(x, 389);
        Due.feed(x, "law all 2 3");
        is("2 chamber() of 400 bytes without the last ';'", x.chamber(), -11);
        is("2 the end is at 400", x.fault(), 400);
        fill(x, 399);
        Due.feed(x, "x");
        is("2 chamber() with a FAULT in the last byte", x.chamber(), -11);
        is("2 the last byte is 399", x.fault(), 399);
        fill(x, 396);
        Due.feed(x, "memb");
        is("2 chamber() with a word cut by the end", x.chamber(), -11);
        is("2 its first letter is 396", x.fault(), 396);
        fill(x, 394);
        Due.feed(x, "member");
        is("2 chamber() with a word up to the end", x.chamber(), -11);
        is("2 what is missing is at 400", x.fault(), 400);
        fill(x, 391);
        Due.feed(x, "cough 999");
        is("2 chamber() with a NUMBER up to the end", x.chamber(), -12);
        is("2 it starts at 397", x.fault(), 397);
    }

    // ---- Promise 3: THE TEXT becomes THE CHAMBER

    private static final Due.Calls[] PASTS = {
        x -> { },
        x -> { x.law(0, 9, 9); x.beat(0); },
        x -> { x.law(1, 9, 9); x.beat(0); x.beat(0); },
        x -> { x.law(2, 9, 9); x.beat(0); x.plan(0); x.record(0, 1); x.keep(0); x.keep(1); },
        x -> { Due.feed(x, FOUR + "law began 7 3;cough 9;"); x.chamber(); x.beat(15); x.beat(0); x.keep(1); x.theme(3, 9); },
        x -> { Due.feed(x, FOUR + "law all 7 3;cough 9;"); x.chamber(); x.beat(3); x.beat(12); x.keep(0); x.plan(3); x.record(9, 4); },
        x -> { Due.feed(x, "member 2 3 9;member 4 3 9;member 3 2 9;"); x.chamber(); x.beat(7); x.beat(0); x.beat(2); x.beat(1); }
    };
    private static final String[] TEXTS = {"", "   ", "law all 8 4;", "cough 55;", "member 4 3 99;",
        "member 2 3 9;law began 1 2;member 3 1 4;", ONE + ONE + ONE, FOUR};
    private static final int[] MEMBERS = {0, 0, 0, 0, 1, 2, 3, 4};

    /** Whatever went by: BEAT 0, all as at first, nothing OWED; no PLAN, RECORD; IMAGES are gone; THE SEED stays. */
    private static void chamberAnew() {
        for (Due.Calls past : PASTS) {
            for (int i = 0; i < TEXTS.length; i++) {
                SilenceFines x = new SilenceFines();
                past.on(x);
                x.seed(1234567 + i);
                Due.feed(x, TEXTS[i]);
                is("3 chamber() of '" + TEXTS[i] + "'", x.chamber(), MEMBERS[i]);
                is("3 fault()", x.fault(), NONE);
                is("3 THE TEXT is empty", x.told(5), 0);
                is("3 THE SEED stays", x.seed(1234567 + i), 1234567 + i);
                SilenceFines y = new SilenceFines();
                y.seed(1234567 + i);
                Due.feed(y, TEXTS[i]);
                y.chamber();
                for (SilenceFines z : new SilenceFines[] {x, y}) {
                    is("3 the first of a new PLAN", z.plan(0), 1);
                    is("3 the first of a new RECORD", z.record(0, 1), 1);
                    is("3 the second of a new RECORD", z.record(1, 1), 2);
                }
                if (MEMBERS[i] == 0) {
                    is("3 no seat is left of the CHAMBER ahead: ways", x.fits(), 0);
                }
                Due.alike("3 anew by '" + TEXTS[i] + "'", x, y);
            }
        }
    }

    /** Each FAULT: -10 less its number; THE TEXT is empty then, too; all else is as it was. */
    private static void chamberWithFault() {
        String[] faults = {"member 1 1 1;law all 2 2;cough 3;x", "member 3 3 9;law all 100 1;", "cough 5;cough 5;"};
        int[] places = {33, 21, 8};
        for (Due.Calls past : PASTS) {
            for (int i = 0; i < faults.length; i++) {
                SilenceFines x = new SilenceFines();
                past.on(x);
                Due.feed(x, faults[i]);
                is("3 chamber() of '" + faults[i] + "'", x.chamber(), -11 - i);
                is("3 fault() of '" + faults[i] + "'", x.fault(), places[i]);
                is("3 THE TEXT is empty, with a FAULT, too", x.told(5), 0);
                is("3 feed(1) behind a FAULT", x.feed(1, 32), 1);
                is("3 the next text has no FAULT of the last one", x.told(5), 1);
                SilenceFines y = new SilenceFines();
                past.on(y);
                y.feed(1, 32);
                Due.alike("3 all else is as it was behind '" + faults[i] + "'", x, y);
            }
        }
    }

    private static void untold() {
        is("3 law untold: KIND", Due.chamber("cough 7;" + ONE, 1).told(1), 0);
        is("3 law untold: C", Due.chamber("cough 7;" + ONE, 1).told(2), 5);
        is("3 law untold: O", Due.chamber("cough 7;" + ONE, 1).told(3), 1);
        is("3 cough untold", Due.chamber("law all 7 7;" + ONE, 1).told(4), 0);
        String[] kinds = {"stopped", "began", "all"};
        for (int kind = 0; kind < 3; kind++) {
            is("3 KIND " + kinds[kind], Due.chamber("law " + kinds[kind] + " 1 1;", 0).told(1), kind);
        }
        SilenceFines x = Due.chamber("member 1 2 3;law began 98 97;member 4 3 99;cough 96;member 2 1 0;", 3);
        int[][] due = {{1, 2, 3}, {4, 3, 99}, {2, 1, 0}};
        for (int m = 0; m < 3; m++) {
            is("3 by seats: BREATH of " + m, x.member(m, 0), due[m][0]);
            is("3 by seats: REST of " + m, x.member(m, 6), due[m][1]);
            is("3 by seats: WORDS of " + m, x.member(m, 2), due[m][2]);
        }
        is("3 law", x.told(1) * 10000 + x.told(2) * 100 + x.told(3), 19897);
        is("3 cough", x.told(4), 96);
    }

    // ---- the bounds of each NUMBER of the text; FAULT 2, at its first figure

    private static void numbers() {
        String[] heads = {"member ", "member 1 ", "member 1 1 ", "law all ", "law all 1 ", "cough "};
        String[] tails = {" 1 1;", " 1;", ";", " 1;", ";", ";"};
        int[] lows = {1, 1, 0, 0, 0, 0};
        int[] highs = {4, 3, 99, 99, 99, 100};
        for (int i = 0; i < heads.length; i++) {
            for (int n = 0; n <= 120; n++) {
                boolean taken = n >= lows[i] && n <= highs[i];
                int answer = !taken ? -12 : i < 3 ? 1 : 0;
                int place = taken ? NONE : heads[i].length();
                text(heads[i] + n + tails[i], answer, place);
                text(heads[i] + (1000 + n + "").substring(1) + tails[i], answer, place);
                text(heads[i] + (10000 + n + "").substring(1) + tails[i], -12, heads[i].length());
            }
            for (String n : new String[] {"999", "1000", "9999", "00000", "65537", "4294967297", "18446744073709551617"}) {
                text(heads[i] + n + tails[i], -12, heads[i].length());
            }
            text(heads[i] + "-1" + tails[i], -11, heads[i].length());
            text(heads[i] + "+1" + tails[i], -11, heads[i].length());
        }
        for (int n = 0; n < 100; n++) {
            SilenceFines x = Due.chamber("member 1 1 " + n + ";law all " + n + " " + (99 - n) + ";cough " + (n + 1) + ";", 1);
            is("4 WORDS " + n, x.member(0, 2), n);
            is("4 C " + n, x.told(2), n);
            is("4 O " + (99 - n), x.told(3), 99 - n);
            is("4 Q " + (n + 1), x.told(4), n + 1);
        }
    }

    // ---- FAULT 3: a fifth MEMBER, 'law', 'cough' again, at its first letter

    private static void oneTooMany() {
        text(FOUR, 4, NONE);
        text(FOUR + ONE, -13, 52);
        text(FOUR + "  member", -13, 54);
        text(FOUR + "member 9 9 9;", -13, 52);
        text(FOUR + "membe", -11, 52);
        text(FOUR + "law all 1 1;cough 1;", 4, NONE);
        text(FOUR + "law all 1 1;" + ONE, -13, 64);
        text("law all 1 1;cough 1;" + FOUR, 4, NONE);
        text("law all 1 1;law all 1 1;", -13, 12);
        text("law all 1 1;cough 1; law", -13, 21);
        text("law all 1 1;law x", -13, 12);
        text("law all 1 1;lawx", -11, 12);
        text("cough 1;cough 1;", -13, 8);
        text("cough 0; law all 1 1;cough", -13, 21);
        text("cough 1;cough 101;", -13, 8);
        text("cough 1;coughs 1;", -11, 8);
        text("law stopped 5 1;law stopped 5 1;", -13, 16);
        text("cough 0;cough 0;", -13, 8);
    }

    // ---- FAULTS, at the first byte that has one (the end at the text's length), of these the least

    private static void firstFault() {
        text("member 5 1 1;x", -12, 7);
        text("member 1 1 100", -12, 11);
        text("member 1 1 100;member 1 1 1;;", -12, 11);
        text("cough 1;cough x", -13, 8);
        text("cough 1;x cough", -11, 8);
        text("member 1 4 100;", -12, 9);
        text("member 0001 x", -12, 7);
        // Where a NUMBER, a word of a clause cannot stand, that it cannot is the least of its FAULTS.
        text("1000", -11, 0);
        text("cough 1 1000;", -11, 8);
        text("law 1000;", -11, 4);
        text("member 1 1 1 1000;", -11, 13);
        text(FOUR.substring(0, 51) + ONE, -11, 51);
        text("law all 1 1 law all 1 1;", -11, 12);
        text("cough 1;cough 1 cough 1;", -13, 8);
        text("cough 1;law cough 1;", -11, 12);
    }

    /** Each beginning of a sound text: cut within a word at its first letter, else at the end; whole behind each ';'. */
    private static void cutOff() {
        String whole = "member 2 3 45 ; law began 6 7;cough 89;";
        int[] words = {0, 6, 16, 19, 20, 25, 30, 35};
        for (int length = 0; length <= whole.length(); length++) {
            String part = whole.substring(0, length);
            int place = length;
            for (int w = 0; w < words.length; w += 2) {
                if (length > words[w] && length < words[w + 1]) {
                    place = words[w];
                }
            }
            String told = part.trim();
            boolean sound = told.isEmpty() || told.endsWith(";");
            text(part, sound ? (length < 15 ? 0 : 1) : -11, sound ? NONE : place);
            text(part + "  ", sound ? (length < 15 ? 0 : 1) : -11, sound ? NONE : place == length ? length + 2 : place);
        }
    }

    // ---- words are letters a .. z side by side; blanks (32) anywhere but within words and NUMBERS

    /** Each of the 256 bytes ahead of a clause, behind a word, within a word, behind a NUMBER, behind a ';'. */
    private static void everyByte() {
        for (int b = 0; b < 256; b++) {
            char sign = (char) b;
            boolean figure = b >= '0' && b <= '9';
            boolean letter = b >= 'a' && b <= 'z';
            boolean blank = b == 32;
            text("" + sign, blank ? 0 : -11, blank ? NONE : 0);
            text(sign + "cough 1;", blank ? 0 : -11, blank ? NONE : 0);
            text("cough" + sign + "1;", blank || figure ? 0 : -11, blank || figure ? NONE : letter ? 0 : 5);
            text("cou" + sign + "gh 1;", -11, 0);
            text("cough 1" + sign + ";", blank || figure ? 0 : -11, blank || figure ? NONE : b == ';' ? 8 : 7);
            text("cough 1" + sign, b == ';' ? 0 : -11, b == ';' ? NONE : blank || figure ? 8 : 7);
            text("cough 1;" + sign, blank ? 0 : -11, blank ? NONE : 8);
        }
    }

    /** A word is itself to the letter: any other letter in any place, one more, one less makes it one that cannot stand. */
    private static void everyLetter() {
        String[] words = {"member", "law", "cough", "stopped", "began", "all"};
        for (int w = 0; w < words.length; w++) {
            String head = w < 3 ? "" : "law ";
            String tail = w == 0 ? " 1 1 1;" : w == 2 ? " 1;" : w == 1 ? " all 1 1;" : " 1 1;";
            for (int i = 0; i < words[w].length(); i++) {
                String before = words[w].substring(0, i);
                String behind = words[w].substring(i + 1);
                text(head + before + behind + tail, -11, head.length());
                for (char sign = 'a'; sign <= 'z'; sign++) {
                    boolean same = sign == words[w].charAt(i);
                    text(head + before + sign + behind + tail, same ? (w == 0 ? 1 : 0) : -11, same ? NONE : head.length());
                    text(head + before + sign + words[w].substring(i) + tail, -11, head.length());
                }
                text(head + before + Character.toUpperCase(words[w].charAt(i)) + behind + tail, -11, head.length());
            }
            text(head + words[w] + "s" + tail, -11, head.length());
        }
        for (String word : new String[] {"stopped", "began", "all", "beat", "members", "laws", "coughs", "a", "z"}) {
            text(word + " 1 1;", -11, 0);
        }
        for (String word : new String[] {"member", "law", "cough"}) {
            text("law " + word + " 1 1;", -11, 4);
        }
    }

    private static void blanks() {
        text("", 0, NONE);
        text(" ", 0, NONE);
        text(" ".repeat(400), 0, NONE);
        String tight = "member1 2 3;law all4 5;cough6;";
        text(tight, 1, NONE);
        for (int at = 0; at <= tight.length(); at++) {
            String loose = tight.substring(0, at) + " " + tight.substring(at);
            boolean within = at > 0 && at < tight.length() && Character.isLetter(tight.charAt(at)) && Character.isLetter(tight.charAt(at - 1));
            int first = at;
            while (within && first > 0 && Character.isLetter(tight.charAt(first - 1))) {
                first--;
            }
            text(loose, within ? -11 : 1, within ? first : NONE);
        }
        text("lawall 4 5;", -11, 0);
        text("law all 45;", -11, 10);
        text("law all 4 5 ;", 0, NONE);
        text("cough 1 0;", -11, 8);
        text("member 1 1 1 2;", -11, 13);
        text("member 12 3;", -12, 7);
        text("member 1 23;", -12, 9);
    }

    // ---- Promise 4: fault(): of the latest chamber(); NONE

    private static void latestFault() {
        SilenceFines x = new SilenceFines();
        Due.feed(x, "    x");
        is("4 fault() ahead of chamber()", x.fault(), NONE);
        x.chamber();
        is("4 fault()", x.fault(), 4);
        is("4 fault() again", x.fault(), 4);
        Due.feed(x, "cough 101;");
        is("4 fault() stays till the next chamber()", x.fault(), 4);
        x.chamber();
        is("4 the latest", x.fault(), 6);
        Due.feed(x, ONE);
        x.chamber();
        is("4 without a FAULT", x.fault(), NONE);
        Due.feed(x, ";");
        x.chamber();
        is("4 at the first byte", x.fault(), 0);
        x.chamber();
        is("4 an empty text", x.fault(), NONE);
    }

    // ---- Promise 5: told: 0 .. 11

    private static void told() {
        SilenceFines x = Due.chamber(FOUR + "law all 9 8;cough 7;", 4);
        for (int what : new int[] {-1, 12, 13, 100, LOWEST, HIGHEST}) {
            is("5 told(" + what + ")", x.told(what), OUTSIDE);
        }
        for (int what = 0; what <= 11; what++) {
            is("5 told(" + what + ") is no refusal", x.told(what) >= 0 ? 1 : 0, 1);
        }
        int[] sets = {0, 0, 5, 5, 2, 8, 0};
        int[] spoke = {0, 0, 5, 0, 2, 8, 0};
        int[] silent = {1, 2, 0, 1, 0, 0, 1};
        int[] said = {0, 0, 1, 1, 2, 3, 3};
        for (int i = 0; i < sets.length; i++) {
            x.beat(sets[i]);
            is("5 THE BEAT " + i, x.told(6), i + 1);
            is("5 SAID, beat " + i, x.told(7), said[i]);
            is("5 who spoke in the latest beat, " + i, x.told(8), spoke[i]);
            is("5 beats of SILENCE since a speaker, beat " + i, x.told(9), silent[i]);
        }
        x.plan(1);
        x.record(0, 1);
        x.run(NONE, 0);
        x.laws(0);
        x.answer(0, 0);
        x.fits();
        is("5 what is tried only does not count: THE BEAT", x.told(6), 7);
        is("5 what is tried only does not count: SAID", x.told(7), 3);
    }

    // ---- Promise 6: member: 0 .. 7, of a MEMBER

    private static void member() {
        StringBuilder text = new StringBuilder();
        for (int members = 0; members <= 4; members++) {
            SilenceFines x = Due.chamber(text.toString(), members);
            for (int m : new int[] {-1, members, 4, 5, 31, 32, LOWEST, HIGHEST}) {
                is("6 member(" + m + ", 0) of " + members, x.member(m, 0), UNKNOWN);
                is("6 member(" + m + ", 8) of " + members + ": UNKNOWN ahead of OUTSIDE", x.member(m, 8), UNKNOWN);
                is("6 member(" + m + ", -1) of " + members + ": UNKNOWN ahead of OUTSIDE", x.member(m, -1), UNKNOWN);
            }
            for (int m = 0; m < members; m++) {
                int[] due = {m + 1, m + 1, m, 0, m > 0 ? 1 : 0, m, m % 3 + 1, 0};
                for (int what = 0; what < due.length; what++) {
                    is("6 member(" + m + ", " + what + ") of " + members, x.member(m, what), due[what]);
                }
                for (int what : new int[] {-1, 8, 9, LOWEST, HIGHEST}) {
                    is("6 member(" + m + ", " + what + ") of " + members, x.member(m, what), OUTSIDE);
                }
            }
            text.append("member ").append(members + 1).append(' ').append(members % 3 + 1).append(' ').append(members).append(';');
        }
    }

    /** ALONE, and whether one CAN SPEAK: by AIR and by WORDS LEFT, down to 0 of each. */
    private static void alone() {
        for (int breath = 1; breath <= 4; breath++) {
            for (int words : new int[] {0, 1, 2, 3, 4, 5, 99}) {
                SilenceFines x = Due.chamber("member " + breath + " 3 " + words + ";", 1);
                int beats = Math.min(breath, words);
                for (int i = 0; i <= beats + 1; i++) {
                    is("6 ALONE by " + breath + ", " + words + ", " + i + " beats on", x.member(0, 5), Math.max(beats - i, 0));
                    is("6 CAN SPEAK by " + breath + ", " + words + ", " + i + " beats on", x.member(0, 4), i < beats ? 1 : 0);
                    is("6 beat(1) by " + breath + ", " + words + ", " + i + " beats on", x.beat(1), i < beats ? 1 : 0);
                }
            }
        }
    }

    public static void main(String[] args) {
        newObject();
        nobody();
        feedBytes();
        feedNumber();
        feedFull();
        feedTextOf400();
        chamberAnew();
        chamberWithFault();
        untold();
        numbers();
        oneTooMany();
        firstFault();
        cutOff();
        everyByte();
        everyLetter();
        blanks();
        latestFault();
        told();
        member();
        alone();
        Due.end("ChamberEdgeTest");
    }
}
