/** Holds calls' answers against what is due, prints each that differs, and ends with 1 if one did. */
final class Due {
    private static int wrong = 0;

    private Due() {
    }

    static void is(String call, long got, long want) {
        if (got != want) {
            wrong++;
            System.out.println(call + " answered " + got + ", due is " + want);
        }
    }

    static void end(String name) {
        System.out.println(name + ": " + (wrong == 0 ? "all answers are as due" : wrong + " answers are not as due"));
        if (wrong != 0) {
            System.exit(1);
        }
    }

    /** Feeds a text, eight bytes a call; signs are bytes. */
    static void feed(SilenceFines x, String text) {
        for (int at = 0; at < text.length(); at += 8) {
            String part = text.substring(at, Math.min(at + 8, text.length()));
            x.feed(part.length(), bytes(part));
        }
    }

    static long bytes(String part) {
        long bytes = 0;
        for (int i = 0; i < part.length(); i++) {
            bytes = bytes << 8 | part.charAt(i) & 255;
        }
        return bytes;
    }

    /** An object whose chamber is told by a text that has no FAULT. */
    static SilenceFines chamber(String text, int members) {
        SilenceFines x = new SilenceFines();
        feed(x, text);
        is("chamber() of '" + text + "'", x.chamber(), members);
        return x;
    }

    /** Holds every answer of told and member against another object's. */
    static void same(String when, SilenceFines x, SilenceFines y) {
        for (int what = 0; what <= 11; what++) {
            is(when + ": told(" + what + ")", x.told(what), y.told(what));
        }
        for (int m = 0; m < 4; m++) {
            for (int what = 0; what <= 7; what++) {
                is(when + ": member(" + m + ", " + what + ")", x.member(m, what), y.member(m, what));
            }
        }
    }
}
