/**
 * Fined by the silence: a parliament in which whoever stops speaking pays by
 * the beat till another begins. Words in capitals are those of DOC.md.
 *
 * Every row that a call needs is made by the constructor and used again, so
 * that no call makes an object: all calls of a run live in one room.
 */
public final class SilenceFines {
    public static final int NONE = -1, UNKNOWN = -1000000001, OUTSIDE = -1000000002, NOT = -1000000003, FULL = -1000000004;

    private static final int SEATS = 4;
    private static final int MOST_BREATH = 4;
    private static final int MOST_REST = 3;
    private static final int MOST_WORDS = 99;
    private static final int MOST_FINE = 99;
    private static final int HUNDRED = 100;
    private static final int FEED_BYTES = 8;
    private static final int TEXT_BYTES = 400;
    private static final int MOST_FIGURES = 3;
    private static final int MOST_DRIFT = 999;
    private static final int PLAN_BEATS = 30;
    private static final int ANSWER_BEATS = 12;
    private static final int PREMIUM_BEATS = 50;
    private static final int SPEECHES = 7;
    private static final int MOST_GAP = 9;
    private static final int MOST_LENGTH = 4;
    private static final int IMAGES = 2;
    private static final long BILLION = 1000000000L;

    private static final int STOPPED = 0, BEGAN = 1, ALL = 2;
    private static final int FIRST_C = 5, FIRST_O = 1;

    private static final int SOUND = 0, MISPLACED = 1, BAD_NUMBER = 2, ONE_TOO_MANY = 3;
    private static final int FAULT_BASE = -10;

    private static final int COUGH_SIDES = 100, BEGIN_SIDES = 8;
    private static final long SEED_TIMES = 1103515245L, SEED_PLUS = 12345L, SEED_MASK = 2147483647L;

    private final House house;
    private final Reader reader;
    private final Sitting now;
    private final Sitting trial;
    private final Plan agenda;
    private final Adviser adviser;
    private final Minutes minutes;
    private final Sitting[] images;
    /** Which IMAGES were kept: a SET of them. */
    private int kept;

    public SilenceFines() {
        house = new House();
        reader = new Reader();
        now = new Sitting(house);
        trial = new Sitting(house);
        agenda = new Plan();
        adviser = new Adviser(house);
        minutes = new Minutes(house);
        images = new Sitting[IMAGES];
        for (int i = 0; i < IMAGES; i++) {
            images[i] = new Sitting(house);
        }
    }

    // ---- the chamber

    public int feed(int n, long bytes) {
        if (n < 1 || n > FEED_BYTES) {
            return OUTSIDE;
        }
        return reader.append(n, bytes) ? reader.length : FULL;
    }

    public int chamber() {
        int found = reader.readAll();
        if (found != SOUND) {
            return FAULT_BASE - found;
        }
        house.takeFrom(reader.draft);
        now.open();
        agenda.beats = 0;
        minutes.count = 0;
        kept = 0;
        return house.members;
    }

    public int fault() {
        return reader.place;
    }

    public int told(int what) {
        switch (what) {
            case 0: return house.members;
            case 1: return now.kind;
            case 2: return now.c;
            case 3: return now.o;
            case 4: return house.cough;
            case 5: return reader.length;
            case 6: return now.beats;
            case 7: return now.said;
            case 8: return now.spoke;
            case 9: return now.silent;
            case 10: return agenda.beats;
            case 11: return minutes.count;
            default: return OUTSIDE;
        }
    }

    public int member(int m, int what) {
        if (!isMember(m)) {
            return UNKNOWN;
        }
        switch (what) {
            case 0: return house.breath[m];
            case 1: return now.air[m];
            case 2: return now.words[m];
            case 3: return now.owed[m];
            case 4: return now.canSpeak(m) ? 1 : 0;
            case 5: return Math.min(now.air[m], now.words[m]);
            case 6: return house.rest[m];
            case 7: return now.rests[m];
            default: return OUTSIDE;
        }
    }

    // ---- beats

    public int beat(int set) {
        return areMembers(set) ? now.goOn(set) : UNKNOWN;
    }

    public int theme(int m, int n) {
        if (!isMember(m)) {
            return UNKNOWN;
        }
        if (n < 0 || n > MOST_WORDS) {
            return OUTSIDE;
        }
        int before = now.words[m];
        now.words[m] = n;
        return before;
    }

    public int law(int kind, int c, int o) {
        if (!isKind(kind) || c < 0 || c > MOST_FINE || o < 0 || o > MOST_FINE) {
            return OUTSIDE;
        }
        int before = now.kind;
        now.kind = kind;
        now.c = c;
        now.o = o;
        return before;
    }

    public int drift(int n) {
        if (n < 1 || n > MOST_DRIFT) {
            return OUTSIDE;
        }
        if (house.members == 0) {
            return NOT;
        }
        int saidBefore = now.said;
        for (int i = 0; i < n; i++) {
            now.goOn(now.drawSpeakers());
        }
        return now.said - saidBefore;
    }

    // ---- plans

    public int plan(int set) {
        if (!areMembers(set)) {
            return UNKNOWN;
        }
        return agenda.append(set) ? agenda.beats : FULL;
    }

    public int drop() {
        int before = agenda.beats;
        agenda.beats = 0;
        return before;
    }

    public int run(int m, int what) {
        if (m != NONE && !isMember(m)) {
            return UNKNOWN;
        }
        if (m == NONE && (what < 0 || what > 3)) {
            return OUTSIDE;
        }
        trial.takeFrom(now);
        agenda.playOn(trial);
        if (isMember(m)) {
            return trial.owed[m] - now.owed[m];
        }
        switch (what) {
            case 0: return agenda.silences;
            case 1: return agenda.overlaps;
            case 2: return agenda.said;
            default: return agenda.gap;
        }
    }

    public int follow() {
        agenda.playOn(now);
        return agenda.silences;
    }

    public int ever(int set) {
        if (!areMembers(set)) {
            return UNKNOWN;
        }
        return house.canSpeakForEver(set) ? 1 : 0;
    }

    public int voices() {
        int best = NONE;
        for (int set = 1; set < 1 << SEATS && areMembers(set); set++) {
            boolean fewer = best == NONE || Integer.bitCount(set) < Integer.bitCount(best);
            if (fewer && house.canSpeakForEver(set)) {
                best = set;
            }
        }
        return best;
    }

    public int answer(int m, int what) {
        if (!isMember(m)) {
            return UNKNOWN;
        }
        if (what < 0 || what > 1) {
            return OUTSIDE;
        }
        adviser.advise(m, now, agenda);
        return what == 0 ? adviser.leastOwed() : adviser.leastSet();
    }

    public int laws(int kind) {
        if (!isKind(kind)) {
            return OUTSIDE;
        }
        trial.takeFrom(now);
        trial.kind = kind;
        agenda.playOn(trial);
        return trial.owedTogether() - now.owedTogether();
    }

    public int premium(int k, int what) {
        if (k < 0 || k > PREMIUM_BEATS || what < 0 || what > 1) {
            return OUTSIDE;
        }
        long left = BILLION;
        for (int i = 0; i < k; i++) {
            left = left * (HUNDRED - house.cough) / HUNDRED;
        }
        long odds = BILLION - left;
        return (int) (what == 0 ? odds : odds * now.c / BILLION);
    }

    // ---- records

    public int record(int gap, int length) {
        if (gap < 0 || gap > MOST_GAP || length < 1 || length > MOST_LENGTH) {
            return OUTSIDE;
        }
        return minutes.append(gap, length) ? minutes.count : FULL;
    }

    public int tear() {
        int before = minutes.count;
        minutes.count = 0;
        return before;
    }

    public int fits() {
        return minutes.countWays(now);
    }

    public int sure(int i) {
        if (i < 0 || i >= minutes.count) {
            return OUTSIDE;
        }
        return minutes.onlySpeaker(i, minutes.countWays(now));
    }

    // ---- draws, images

    public int seed(int v) {
        if (v < 0) {
            return OUTSIDE;
        }
        int before = now.seed;
        now.seed = v;
        return before;
    }

    public int keep(int i) {
        Sitting image = imageOf(i);
        if (image == null) {
            return UNKNOWN;
        }
        image.takeFrom(now);
        kept |= 1 << i;
        return 1;
    }

    public int goBack(int i) {
        Sitting image = imageOf(i);
        if (image == null) {
            return UNKNOWN;
        }
        if (!has(kept, i)) {
            return NOT;
        }
        now.takeFrom(image);
        return 1;
    }

    private Sitting imageOf(int i) {
        return i >= 0 && i < IMAGES ? images[i] : null;
    }

    // ---- what arguments may be

    private boolean isMember(int m) {
        return m >= 0 && m < SEATS && m < house.members;
    }

    private boolean areMembers(int set) {
        return set >= 0 && set < 1 << house.members;
    }

    private static boolean isKind(int kind) {
        return kind >= STOPPED && kind <= ALL;
    }

    private static boolean has(int set, int k) {
        return (set >> k & 1) == 1;
    }

    /** THE CHAMBER as its text tells it. A seat without a MEMBER has no BREATH. */
    private static final class House {
        /** Twelfths, since 12 can be divided by 1 + R for each R. */
        private static final int WHOLE = 12;

        final int[] breath = new int[SEATS];
        final int[] rest = new int[SEATS];
        final int[] words = new int[SEATS];
        int members;
        int kind = STOPPED;
        int c = FIRST_C;
        int o = FIRST_O;
        int cough;

        void clear() {
            for (int m = 0; m < SEATS; m++) {
                breath[m] = 0;
                rest[m] = 0;
                words[m] = 0;
            }
            members = 0;
            kind = STOPPED;
            c = FIRST_C;
            o = FIRST_O;
            cough = 0;
        }

        void seat(int ofBreath, int ofRest, int ofWords) {
            if (members >= 0 && members < SEATS) {
                breath[members] = ofBreath;
                rest[members] = ofRest;
                words[members] = ofWords;
                members++;
            }
        }

        void takeFrom(House other) {
            for (int m = 0; m < SEATS; m++) {
                breath[m] = other.breath[m];
                rest[m] = other.rest[m];
                words[m] = other.words[m];
            }
            members = other.members;
            kind = other.kind;
            c = other.c;
            o = other.o;
            cough = other.cough;
        }

        /**
         * In the long run one speaks in at most one of 1 + R beats, since each
         * beat of AIR takes R beats of RESTS: a SET whose shares are less than
         * a whole must fall silent. With R from 1 to 3 a whole is enough too,
         * by rounds that need but one beat of AIR: two of R 1 take turns; so do
         * three of R 2 or less, and any four; one of R 1 with two others speaks
         * in every second beat, as a b a c. No other SET makes up a whole.
         */
        boolean canSpeakForEver(int set) {
            int shares = 0;
            for (int m = 0; m < SEATS; m++) {
                if (has(set, m) && rest[m] > 0) {
                    shares += WHOLE / (1 + rest[m]);
                }
            }
            return shares >= WHOLE;
        }
    }

    /** THE TEXT, and its reading into a draft of THE CHAMBER. */
    private static final class Reader {
        final House draft = new House();
        int length;
        int place = NONE;

        private final byte[] text = new byte[TEXT_BYTES];
        private int at;
        private int found;
        private boolean lawTold;
        private boolean coughTold;

        boolean append(int n, long bytes) {
            if (n > TEXT_BYTES - length) {
                return false;
            }
            for (int k = n - 1; k >= 0 && length < TEXT_BYTES; k--) {
                text[length] = (byte) (bytes >>> 8 * k);
                length++;
            }
            return true;
        }

        /** Answers the number of the FAULT; the text is empty then. */
        int readAll() {
            draft.clear();
            at = 0;
            found = SOUND;
            place = NONE;
            lawTold = false;
            coughTold = false;
            skipBlanks();
            for (int i = 0; i < TEXT_BYTES && at < length && found == SOUND; i++) {
                readClause();
                skipBlanks();
            }
            length = 0;
            return found;
        }

        private void readClause() {
            int first = at;
            skipWord();
            if (isWord(first, "member")) {
                readMember(first);
            } else if (isWord(first, "law")) {
                readLaw(first);
            } else if (isWord(first, "cough")) {
                readCough(first);
            } else {
                blame(MISPLACED, first);
            }
        }

        private void readMember(int first) {
            if (draft.members >= SEATS) {
                blame(ONE_TOO_MANY, first);
            }
            int breath = readNumber(1, MOST_BREATH);
            int rest = readNumber(1, MOST_REST);
            int words = readNumber(0, MOST_WORDS);
            readEnd();
            if (found == SOUND) {
                draft.seat(breath, rest, words);
            }
        }

        private void readLaw(int first) {
            if (lawTold) {
                blame(ONE_TOO_MANY, first);
            }
            lawTold = true;
            draft.kind = readKind();
            draft.c = readNumber(0, MOST_FINE);
            draft.o = readNumber(0, MOST_FINE);
            readEnd();
        }

        private void readCough(int first) {
            if (coughTold) {
                blame(ONE_TOO_MANY, first);
            }
            coughTold = true;
            draft.cough = readNumber(0, HUNDRED);
            readEnd();
        }

        private int readKind() {
            skipBlanks();
            int first = at;
            skipWord();
            if (isWord(first, "stopped")) {
                return STOPPED;
            }
            if (isWord(first, "began")) {
                return BEGAN;
            }
            if (isWord(first, "all")) {
                return ALL;
            }
            blame(MISPLACED, first);
            return STOPPED;
        }

        private int readNumber(int low, int high) {
            skipBlanks();
            int first = at;
            int value = 0;
            while (at < length && isBetween('0', '9')) {
                // A fourth figure is a FAULT whatever the value, so the value need not grow on.
                if (at - first < MOST_FIGURES) {
                    value = 10 * value + text[at] - '0';
                }
                at++;
            }
            if (at == first) {
                blame(MISPLACED, first);
            } else if (at - first > MOST_FIGURES || value < low || value > high) {
                blame(BAD_NUMBER, first);
            }
            return value;
        }

        private void readEnd() {
            skipBlanks();
            if (isBetween(';', ';')) {
                at++;
            } else {
                blame(MISPLACED, at);
            }
        }

        private void skipBlanks() {
            while (at < length && isBetween(' ', ' ')) {
                at++;
            }
        }

        private void skipWord() {
            while (at < length && isBetween('a', 'z')) {
                at++;
            }
        }

        /** Whether a byte of this kind stands at the place of reading; none does at the end. */
        private boolean isBetween(char low, char high) {
            return at >= 0 && at < length && at < TEXT_BYTES && text[at] >= low && text[at] <= high;
        }

        private boolean isWord(int first, String word) {
            if (first < 0 || at > TEXT_BYTES || at - first != word.length()) {
                return false;
            }
            for (int i = 0; i < word.length(); i++) {
                if (text[first + i] != word.charAt(i)) {
                    return false;
                }
            }
            return true;
        }

        /** Only the first FAULT counts: a clause is read on to its end behind one. */
        private void blame(int number, int where) {
            if (found == SOUND) {
                found = number;
                place = where;
            }
        }
    }

    /** All that goes on from beat to beat: what an IMAGE keeps. */
    private static final class Sitting {
        private final House house;
        final int[] air = new int[SEATS];
        final int[] rests = new int[SEATS];
        final int[] words = new int[SEATS];
        final int[] owed = new int[SEATS];
        int beats;
        int said;
        int spoke;
        int silent;
        int kind = STOPPED;
        int c = FIRST_C;
        int o = FIRST_O;
        int seed;
        private int stopper = NONE;
        private int unpaid;

        Sitting(House house) {
            this.house = house;
        }

        /** All as at first, but for THE SEED, which stays. */
        void open() {
            for (int m = 0; m < SEATS; m++) {
                air[m] = house.breath[m];
                rests[m] = 0;
                words[m] = house.words[m];
                owed[m] = 0;
            }
            beats = 0;
            said = 0;
            spoke = 0;
            silent = 0;
            stopper = NONE;
            unpaid = 0;
            kind = house.kind;
            c = house.c;
            o = house.o;
        }

        void takeFrom(Sitting other) {
            for (int m = 0; m < SEATS; m++) {
                air[m] = other.air[m];
                rests[m] = other.rests[m];
                words[m] = other.words[m];
                owed[m] = other.owed[m];
            }
            beats = other.beats;
            said = other.said;
            spoke = other.spoke;
            silent = other.silent;
            stopper = other.stopper;
            unpaid = other.unpaid;
            kind = other.kind;
            c = other.c;
            o = other.o;
            seed = other.seed;
        }

        boolean canSpeak(int m) {
            return m >= 0 && m < SEATS && air[m] > 0 && words[m] > 0;
        }

        int owedTogether() {
            int sum = 0;
            for (int m = 0; m < SEATS; m++) {
                sum += owed[m];
            }
            return sum;
        }

        /** A BEAT; answers who speaks in it. */
        int goOn(int set) {
            int speakers = 0;
            for (int m = 0; m < SEATS; m++) {
                if (has(set, m) && canSpeak(m)) {
                    speakers |= 1 << m;
                    air[m]--;
                    words[m]--;
                    rests[m] = 0;
                } else {
                    takeRest(m);
                }
            }
            beats++;
            spoke = speakers;
            if (speakers == 0) {
                paySilence();
            } else {
                paySpeaking(speakers);
            }
            return speakers;
        }

        private void takeRest(int m) {
            if (m < 0 || m >= SEATS || air[m] >= house.breath[m]) {
                return;
            }
            rests[m]++;
            if (rests[m] >= house.rest[m]) {
                rests[m] = 0;
                air[m]++;
            }
        }

        private void paySilence() {
            silent++;
            if (kind == BEGAN) {
                unpaid++;
            } else if (kind == ALL) {
                payTogether();
            } else if (stopper >= 0 && stopper < SEATS) {
                owed[stopper] += c;
            }
        }

        private void payTogether() {
            if (house.members > 0) {
                int share = c / house.members;
                for (int m = 0; m < SEATS && m < house.members; m++) {
                    owed[m] += share;
                }
            }
        }

        private void paySpeaking(int speakers) {
            stopper = NONE;
            for (int m = 0; m < SEATS; m++) {
                if (has(speakers, m)) {
                    if (stopper == NONE) {
                        stopper = m;
                        owed[m] += c * unpaid;
                    } else {
                        owed[m] += o;
                    }
                }
            }
            unpaid = 0;
            silent = 0;
            said++;
        }

        /** Who is to speak in the beat that comes, BY DRAWS. */
        int drawSpeakers() {
            int set = 0;
            for (int m = 0; m < SEATS; m++) {
                if (canSpeak(m)) {
                    boolean speaks = has(spoke, m) ? draw(COUGH_SIDES) >= house.cough : draw(BEGIN_SIDES) == 0;
                    if (speaks) {
                        set |= 1 << m;
                    }
                }
            }
            return set;
        }

        private int draw(int sides) {
            seed = (int) (seed * SEED_TIMES + SEED_PLUS & SEED_MASK);
            return sides > 0 ? seed / 65536 % sides : 0;
        }
    }

    /** The PLAN, with what came of it when it was last played. */
    private static final class Plan {
        private final int[] sets = new int[PLAN_BEATS];
        int beats;
        int silences;
        int overlaps;
        int said;
        int gap = NONE;

        boolean append(int set) {
            if (beats < 0 || beats >= PLAN_BEATS) {
                return false;
            }
            sets[beats] = set;
            beats++;
            return true;
        }

        int setOf(int i) {
            return i >= 0 && i < beats && i < PLAN_BEATS ? sets[i] : 0;
        }

        void playOn(Sitting sitting) {
            silences = 0;
            overlaps = 0;
            said = 0;
            gap = NONE;
            for (int i = 0; i < beats; i++) {
                int speakers = sitting.goOn(setOf(i));
                if (speakers != 0) {
                    said++;
                } else {
                    silences++;
                    if (gap == NONE) {
                        gap = i;
                    }
                }
                if (Integer.bitCount(speakers) > 1) {
                    overlaps++;
                }
            }
        }
    }

    /**
     * The BEST ANSWER, searched beat by beat. What is OWED more, the number of
     * beats and the SET of beats stand in one number, the weightiest first.
     * None of the three ever falls from one beat to the next, so a branch that
     * is not below the best can be left.
     */
    private static final class Adviser {
        private static final int COUNT_SHIFT = ANSWER_BEATS, OWED_SHIFT = COUNT_SHIFT + 4;
        private static final long ABOVE_ALL = 9223372036854775807L;

        /** Row i is what is so ahead of beat i. */
        private final Sitting[] rows = new Sitting[ANSWER_BEATS + 1];
        private final int[] others = new int[ANSWER_BEATS];
        private int beats;
        private int speaker;
        private int owedBefore;
        private long best;

        Adviser(House house) {
            for (int i = 0; i <= ANSWER_BEATS; i++) {
                rows[i] = new Sitting(house);
            }
        }

        void advise(int m, Sitting now, Plan plan) {
            best = ABOVE_ALL;
            Sitting first = rowOf(0);
            if (m < 0 || m >= SEATS || first == null) {
                return;
            }
            speaker = m;
            owedBefore = now.owed[m];
            beats = Math.min(plan.beats, ANSWER_BEATS);
            for (int i = 0; i < ANSWER_BEATS; i++) {
                others[i] = plan.setOf(i) & ~(1 << m);
            }
            first.takeFrom(now);
            search(0, 0);
        }

        int leastOwed() {
            return (int) (best >> OWED_SHIFT);
        }

        int leastSet() {
            return (int) (best & (1 << COUNT_SHIFT) - 1);
        }

        private Sitting rowOf(int i) {
            return i >= 0 && i <= ANSWER_BEATS ? rows[i] : null;
        }

        private void search(int i, int set) {
            Sitting row = rowOf(i);
            if (row == null) {
                return;
            }
            long weight = weigh(row, set);
            if (weight >= best) {
                return;
            }
            if (i >= beats) {
                best = weight;
                return;
            }
            descend(i, set, false);
            if (row.canSpeak(speaker)) {
                descend(i, set, true);
            }
        }

        private void descend(int i, int set, boolean speaks) {
            Sitting row = rowOf(i);
            Sitting next = rowOf(i + 1);
            if (row == null || next == null || i >= ANSWER_BEATS) {
                return;
            }
            next.takeFrom(row);
            next.goOn(speaks ? others[i] | 1 << speaker : others[i]);
            search(i + 1, speaks ? set | 1 << i : set);
        }

        private long weigh(Sitting row, int set) {
            if (speaker < 0 || speaker >= SEATS) {
                return ABOVE_ALL;
            }
            long owedMore = row.owed[speaker] - owedBefore;
            return owedMore << OWED_SHIFT | (long) Integer.bitCount(set) << COUNT_SHIFT | set;
        }
    }

    /**
     * The RECORD. AIR and RESTS stand in one number here, the WIND: AIR times R
     * and RESTS; a beat of rest is one more of it, up to BREATH times R.
     */
    private static final class Minutes {
        private final House house;
        private final int[] gaps = new int[SPEECHES];
        private final int[] lengths = new int[SPEECHES];
        int count;

        /** Row i is what is so ahead of the GAP of SPEECH i; seat by seat in each row. */
        private final int[] wind = new int[(SPEECHES + 1) * SEATS];
        private final int[] words = new int[(SPEECHES + 1) * SEATS];
        private final int[] waysBy = new int[SPEECHES * SEATS];

        Minutes(House house) {
            this.house = house;
        }

        boolean append(int gap, int length) {
            if (count < 0 || count >= SPEECHES) {
                return false;
            }
            gaps[count] = gap;
            lengths[count] = length;
            count++;
            return true;
        }

        int countWays(Sitting now) {
            for (int m = 0; m < SEATS; m++) {
                wind[m] = now.air[m] * house.rest[m] + now.rests[m];
                words[m] = now.words[m];
            }
            for (int k = 0; k < SPEECHES * SEATS; k++) {
                waysBy[k] = 0;
            }
            return waysFrom(0, NONE);
        }

        /** Who speaks SPEECH i in all of the ways that were counted last. */
        int onlySpeaker(int i, int ways) {
            if (i < 0 || i >= SPEECHES || ways == 0) {
                return NONE;
            }
            for (int m = 0; m < SEATS; m++) {
                if (waysBy[i * SEATS + m] == ways) {
                    return m;
                }
            }
            return NONE;
        }

        private int waysFrom(int i, int before) {
            if (i < 0 || i >= count || i >= SPEECHES) {
                return 1;
            }
            int ways = 0;
            for (int m = 0; m < SEATS; m++) {
                if (gaps[i] > 0 || m != before) {
                    ways += waysWith(i, m);
                }
            }
            return ways;
        }

        private int waysWith(int i, int m) {
            if (!give(i, m)) {
                return 0;
            }
            int ways = waysFrom(i + 1, m);
            waysBy[i * SEATS + m] += ways;
            return ways;
        }

        /** Makes row i + 1, as it is behind SPEECH i by m; false if m cannot speak so long. */
        private boolean give(int i, int m) {
            if (i < 0 || i >= SPEECHES || m < 0 || m >= SEATS || house.rest[m] <= 0) {
                return false;
            }
            int here = i * SEATS;
            int next = here + SEATS;
            int airThen = rested(m, wind[here + m], gaps[i]) / house.rest[m];
            if (airThen < lengths[i] || words[here + m] < lengths[i]) {
                return false;
            }
            for (int k = 0; k < SEATS; k++) {
                wind[next + k] = rested(k, wind[here + k], gaps[i] + lengths[i]);
                words[next + k] = words[here + k];
            }
            wind[next + m] = (airThen - lengths[i]) * house.rest[m];
            words[next + m] -= lengths[i];
            return true;
        }

        private int rested(int m, int windBefore, int beats) {
            return m < 0 || m >= SEATS ? 0 : Math.min(windBefore + beats, house.breath[m] * house.rest[m]);
        }
    }
}
