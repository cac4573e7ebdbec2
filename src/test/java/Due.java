/** Holds calls' answers against what is due, prints each that differs, and ends with 1 if one did. */
final class Due {
    /** Calls to be made on more than one object. */
    interface Calls {
        void on(SilenceFines x);
    }

    private static int wrong = 0;

    private Due() {
    }

    static void is(String call, long got, long want) {
        if (got != want) {
            wrong++;
            System.out.println(call + " answered " + got + ", due is " + want);
        }
    }

    static void end(String name) {
        System.out.println(name + ": " + (wrong == 0 ? "all answers are as due" : wrong + " answers are not as due"));
        if (wrong != 0) {
            System.exit(1);
        }
    }

    /** Feeds a text, eight bytes a call; signs are bytes. */
    static void feed(SilenceFines x, String text) {
        for (int at = 0; at < text.length(); at += 8) {
            String part = text.substring(at, Math.min(at + 8, text.length()));
            x.feed(part.length(), bytes(part));
        }
    }

    static long bytes(String part) {
        long bytes = 0;
        for (int i = 0; i < part.length(); i++) {
            bytes = bytes << 8 | part.charAt(i) & 255;
        }
        return bytes;
    }

    /** An object whose chamber is told by a text that has no FAULT. */
    static SilenceFines chamber(String text, int members) {
        SilenceFines x = new SilenceFines();
        feed(x, text);
        is("chamber() of '" + text + "'", x.chamber(), members);
        return x;
    }

    /** Holds every answer of told and member against another object's. */
    static void same(String when, SilenceFines x, SilenceFines y) {
        for (int what = 0; what <= 11; what++) {
            is(when + ": told(" + what + ")", x.told(what), y.told(what));
        }
        for (int m = 0; m < 4; m++) {
            for (int what = 0; what <= 7; what++) {
                is(when + ": member(" + m + ", " + what + ")", x.member(m, what), y.member(m, what));
            }
        }
    }

    /** Holds an object against one that was called alike: all it answers now, and behind beats, draws and images more. */
    static void alike(String when, SilenceFines x, SilenceFines y) {
        asked(when, x, y);
        int seed = y.seed(0);
        is(when + ": THE SEED", x.seed(seed), seed);
        y.seed(seed);
        int all = (1 << y.told(0)) - 1;
        is(when + ": beat(0)", x.beat(0), y.beat(0));
        is(when + ": follow()", x.follow(), y.follow());
        is(when + ": drift(9)", x.drift(9), y.drift(9));
        same(when + ", 9 draws on", x, y);
        is(when + ": beat(" + all + ")", x.beat(all), y.beat(all));
        same(when + ", a beat of all on", x, y);
        for (int i = 0; i < 2; i++) {
            is(when + ": goBack(" + i + ")", x.goBack(i), y.goBack(i));
            is(when + ": THE SEED of image " + i, x.seed(7), y.seed(7));
            same(when + ", image " + i, x, y);
        }
        is(when + ": drop()", x.drop(), y.drop());
        is(when + ": tear()", x.tear(), y.tear());
        is(when + ": chamber()", x.chamber(), y.chamber());
        is(when + ": fault()", x.fault(), y.fault());
        same(when + ", the next chamber", x, y);
    }

    /** Every call that only asks. */
    private static void asked(String when, SilenceFines x, SilenceFines y) {
        same(when, x, y);
        for (int what = 0; what < 4; what++) {
            is(when + ": run(-1, " + what + ")", x.run(-1, what), y.run(-1, what));
            is(when + ": run(" + what + ", 0)", x.run(what, 0), y.run(what, 0));
            is(when + ": answer(" + what + ", 0)", x.answer(what, 0), y.answer(what, 0));
            is(when + ": answer(" + what + ", 1)", x.answer(what, 1), y.answer(what, 1));
            is(when + ": laws(" + what + ")", x.laws(what), y.laws(what));
            is(when + ": premium(" + 16 * what + ", 0)", x.premium(16 * what, 0), y.premium(16 * what, 0));
        }
        for (int set = 0; set < 16; set++) {
            is(when + ": ever(" + set + ")", x.ever(set), y.ever(set));
        }
        is(when + ": voices()", x.voices(), y.voices());
        is(when + ": fits()", x.fits(), y.fits());
        for (int i = 0; i < 7; i++) {
            is(when + ": sure(" + i + ")", x.sure(i), y.sure(i));
        }
    }
}
