import java.util.ArrayList;
import java.util.HashSet;
import java.util.List;
import java.util.Set;

/**
 * The document once more, in the most literal way and without any thought of
 * cost: beats are lived through one by one, every SET of beats and every way to
 * give speeches is tried, and speaking on for ever is searched for.
 */
final class Model {
    static final int NONE = -1, UNKNOWN = -1000000001, OUTSIDE = -1000000002, NOT = -1000000003, FULL = -1000000004;

    private static final class Member implements Cloneable {
        int breath, rest, words, air, rests, left;
        long owed;

        Member copy() {
            try {
                return (Member) clone();
            } catch (CloneNotSupportedException e) {
                throw new IllegalStateException(e);
            }
        }

        boolean can() {
            return air >= 1 && left >= 1;
        }

        void rest() {
            if (air < breath) {
                rests++;
                if (rests == rest) {
                    air++;
                    rests = 0;
                }
            }
        }
    }

    private static final class State {
        List<Member> members = new ArrayList<>();
        /** Who spoke in each beat so far. */
        List<Integer> history = new ArrayList<>();
        int kind = 0, c = 5, o = 1, unpaid = 0;
        long seed = 0;

        State copy() {
            State s = new State();
            for (Member m : members) {
                s.members.add(m.copy());
            }
            s.history.addAll(history);
            s.kind = kind;
            s.c = c;
            s.o = o;
            s.unpaid = unpaid;
            s.seed = seed;
            return s;
        }

        /** A copy to try beats on: of the history only its end can matter there. */
        State trial() {
            int end = Math.min(history.size(), silentEnd() + 1);
            List<Integer> whole = history;
            history = new ArrayList<>(whole.subList(whole.size() - end, whole.size()));
            State s = copy();
            history = whole;
            return s;
        }

        int silentEnd() {
            int n = 0;
            while (n < history.size() && history.get(history.size() - 1 - n) == 0) {
                n++;
            }
            return n;
        }

        int stopper() {
            int at = history.size() - 1 - silentEnd();
            return at < 0 ? NONE : Integer.numberOfTrailingZeros(history.get(at));
        }

        int said() {
            int n = 0;
            for (int set : history) {
                n += set == 0 ? 0 : 1;
            }
            return n;
        }

        int latest() {
            return history.isEmpty() ? 0 : history.get(history.size() - 1);
        }

        int beat(int set) {
            List<Member> speakers = new ArrayList<>();
            int spoke = 0;
            for (int m = 0; m < members.size(); m++) {
                Member one = members.get(m);
                if ((set & 1 << m) != 0 && one.can()) {
                    speakers.add(one);
                    spoke |= 1 << m;
                }
            }
            for (Member one : members) {
                if (speakers.contains(one)) {
                    one.air--;
                    one.left--;
                    one.rests = 0;
                } else {
                    one.rest();
                }
            }
            if (speakers.isEmpty()) {
                silence();
            } else {
                for (; unpaid > 0; unpaid--) {
                    speakers.get(0).owed += c;
                }
                for (int i = 1; i < speakers.size(); i++) {
                    speakers.get(i).owed += o;
                }
            }
            history.add(spoke);
            return spoke;
        }

        private void silence() {
            if (kind == 0 && stopper() != NONE) {
                members.get(stopper()).owed += c;
            }
            if (kind == 1) {
                unpaid++;
            }
            if (kind == 2) {
                for (Member one : members) {
                    one.owed += c / members.size();
                }
            }
        }

        int draw(int n) {
            seed = Math.floorMod(seed * 1103515245L + 12345L, 1L << 31);
            return (int) (seed / 65536 % n);
        }
    }

    private State now = new State();
    private final State[] images = new State[2];
    private int cough = 0;
    private StringBuilder text = new StringBuilder();
    private int faultPlace = NONE;
    private List<Integer> plan = new ArrayList<>();
    private List<int[]> record = new ArrayList<>();

    int feed(int n, long bytes) {
        if (n < 1 || n > 8) {
            return OUTSIDE;
        }
        if (text.length() + n > 400) {
            return FULL;
        }
        for (int k = n; k > 0; k--) {
            text.append((char) (bytes >> 8 * (k - 1) & 255));
        }
        return text.length();
    }

    // ---- the text: first into tokens, then each against what may stand there

    private record Token(char type, String signs, int place) {
    }

    private static List<Token> tokens(String s) {
        List<Token> all = new ArrayList<>();
        int i = 0;
        while (i < s.length()) {
            char c = s.charAt(i);
            if (c == ' ') {
                i++;
                continue;
            }
            String rest = s.substring(i);
            String word = rest.replaceFirst("(?s)^([a-z]*).*$", "$1");
            String number = rest.replaceFirst("(?s)^([0-9]*).*$", "$1");
            String signs = !word.isEmpty() ? word : !number.isEmpty() ? number : rest.substring(0, 1);
            all.add(new Token(!word.isEmpty() ? 'w' : !number.isEmpty() ? 'n' : 's', signs, i));
            i += signs.length();
        }
        all.add(new Token('e', "", s.length()));
        return all;
    }

    private int[] fault(List<Token> all, State s, int[] q) {
        int laws = 0;
        int coughs = 0;
        int t = 0;
        while (all.get(t).type != 'e') {
            Token head = all.get(t++);
            int[][] bounds;
            boolean again;
            switch (head.signs) {
                case "member": bounds = new int[][] {{1, 4}, {1, 3}, {0, 99}}; again = s.members.size() == 4; break;
                case "law": bounds = new int[][] {{0, 99}, {0, 99}}; again = laws++ > 0; break;
                case "cough": bounds = new int[][] {{0, 100}}; again = coughs++ > 0; break;
                default: return new int[] {1, head.place};
            }
            if (again) {
                return new int[] {3, head.place};
            }
            if (head.signs.equals("law")) {
                int kind = List.of("stopped", "began", "all").indexOf(all.get(t).signs);
                if (kind < 0) {
                    return new int[] {1, all.get(t).place};
                }
                s.kind = kind;
                t++;
            }
            int[] values = new int[bounds.length];
            for (int i = 0; i < bounds.length; i++) {
                Token number = all.get(t++);
                if (number.type != 'n') {
                    return new int[] {1, number.place};
                }
                if (number.signs.length() > 3) {
                    return new int[] {2, number.place};
                }
                values[i] = Integer.parseInt(number.signs);
                if (values[i] < bounds[i][0] || values[i] > bounds[i][1]) {
                    return new int[] {2, number.place};
                }
            }
            if (!all.get(t).signs.equals(";")) {
                return new int[] {1, all.get(t).place};
            }
            t++;
            switch (head.signs) {
                case "member":
                    Member m = new Member();
                    m.breath = m.air = values[0];
                    m.rest = values[1];
                    m.words = m.left = values[2];
                    s.members.add(m);
                    break;
                case "law":
                    s.c = values[0];
                    s.o = values[1];
                    break;
                default:
                    q[0] = values[0];
            }
        }
        return null;
    }

    int chamber() {
        State s = new State();
        int[] q = {0};
        int[] fault = fault(tokens(text.toString()), s, q);
        text = new StringBuilder();
        faultPlace = fault == null ? NONE : fault[1];
        if (fault != null) {
            return -10 - fault[0];
        }
        s.seed = now.seed;
        now = s;
        cough = q[0];
        plan.clear();
        record.clear();
        images[0] = null;
        images[1] = null;
        return s.members.size();
    }

    int fault() {
        return faultPlace;
    }

    int told(int what) {
        if (what < 0 || what > 11) {
            return OUTSIDE;
        }
        return new int[] {now.members.size(), now.kind, now.c, now.o, cough, text.length(), now.history.size(),
            now.said(), now.latest(), now.silentEnd(), plan.size(), record.size()}[what];
    }

    private boolean unknown(int m) {
        return m < 0 || m >= now.members.size();
    }

    private boolean unknownSet(int set) {
        for (int k = 0; k < 32; k++) {
            if ((set >>> k & 1) == 1 && unknown(k)) {
                return true;
            }
        }
        return false;
    }

    int member(int m, int what) {
        if (unknown(m)) {
            return UNKNOWN;
        }
        if (what < 0 || what > 7) {
            return OUTSIDE;
        }
        Member one = now.members.get(m);
        return new int[] {one.breath, one.air, one.left, (int) one.owed, one.can() ? 1 : 0, alone(m), one.rest,
            one.rests}[what];
    }

    private int alone(int m) {
        State s = now.trial();
        int n = 0;
        while (s.beat(1 << m) != 0) {
            n++;
        }
        return n;
    }

    int beat(int set) {
        return unknownSet(set) ? UNKNOWN : now.beat(set);
    }

    int theme(int m, int n) {
        if (unknown(m)) {
            return UNKNOWN;
        }
        if (n < 0 || n > 99) {
            return OUTSIDE;
        }
        int was = now.members.get(m).left;
        now.members.get(m).left = n;
        return was;
    }

    int law(int kind, int c, int o) {
        if (kind < 0 || kind > 2 || c < 0 || c > 99 || o < 0 || o > 99) {
            return OUTSIDE;
        }
        int was = now.kind;
        now.kind = kind;
        now.c = c;
        now.o = o;
        return was;
    }

    int drift(int n) {
        if (n < 1 || n > 999) {
            return OUTSIDE;
        }
        if (now.members.isEmpty()) {
            return NOT;
        }
        int said = 0;
        for (int i = 0; i < n; i++) {
            int set = 0;
            for (int m = 0; m < now.members.size(); m++) {
                if (!now.members.get(m).can()) {
                    continue;
                }
                if ((now.latest() & 1 << m) != 0) {
                    if (!(now.draw(100) < cough)) {
                        set |= 1 << m;
                    }
                } else if (now.draw(8) == 0) {
                    set |= 1 << m;
                }
            }
            if (now.beat(set) != 0) {
                said++;
            }
        }
        return said;
    }

    int plan(int set) {
        if (unknownSet(set)) {
            return UNKNOWN;
        }
        if (plan.size() == 30) {
            return FULL;
        }
        plan.add(set);
        return plan.size();
    }

    int drop() {
        int was = plan.size();
        plan.clear();
        return was;
    }

    int run(int m, int what) {
        if (m != NONE && unknown(m)) {
            return UNKNOWN;
        }
        if (m == NONE && (what < 0 || what > 3)) {
            return OUTSIDE;
        }
        State s = now.copy();
        int[] counts = {0, 0, 0, NONE};
        for (int i = 0; i < plan.size(); i++) {
            int speakers = Integer.bitCount(s.beat(plan.get(i)));
            counts[0] += speakers == 0 ? 1 : 0;
            counts[1] += speakers >= 2 ? 1 : 0;
            counts[2] += speakers >= 1 ? 1 : 0;
            if (speakers == 0 && counts[3] == NONE) {
                counts[3] = i;
            }
        }
        return m == NONE ? counts[what] : (int) (s.members.get(m).owed - now.members.get(m).owed);
    }

    int follow() {
        int silences = 0;
        for (int set : plan) {
            silences += now.beat(set) == 0 ? 1 : 0;
        }
        return silences;
    }

    /** Looks for a way of speaking on that comes back to where it was. */
    private boolean endless(int set) {
        List<Member> some = new ArrayList<>();
        for (int m = 0; m < now.members.size(); m++) {
            if ((set & 1 << m) != 0) {
                Member one = now.members.get(m).copy();
                one.air = one.breath;
                one.rests = 0;
                some.add(one);
            }
        }
        return goesOn(some, new HashSet<>(), new HashSet<>());
    }

    private static boolean goesOn(List<Member> some, Set<Integer> open, Set<Integer> dead) {
        int key = 0;
        for (Member one : some) {
            key = key * 32 + one.air * 4 + one.rests;
        }
        if (open.contains(key)) {
            return true;
        }
        if (dead.contains(key)) {
            return false;
        }
        open.add(key);
        for (int k = 0; k < some.size(); k++) {
            if (some.get(k).air > 0) {
                List<Member> next = new ArrayList<>();
                for (int j = 0; j < some.size(); j++) {
                    Member one = some.get(j).copy();
                    if (j == k) {
                        one.air--;
                        one.rests = 0;
                    } else {
                        one.rest();
                    }
                    next.add(one);
                }
                if (goesOn(next, open, dead)) {
                    return true;
                }
            }
        }
        open.remove(key);
        dead.add(key);
        return false;
    }

    int ever(int set) {
        return unknownSet(set) ? UNKNOWN : endless(set) ? 1 : 0;
    }

    int voices() {
        for (int size = 1; size <= 4; size++) {
            for (int set = 1; set < 1 << now.members.size(); set++) {
                if (Integer.bitCount(set) == size && endless(set)) {
                    return set;
                }
            }
        }
        return NONE;
    }

    int answer(int m, int what) {
        if (unknown(m)) {
            return UNKNOWN;
        }
        if (what < 0 || what > 1) {
            return OUTSIDE;
        }
        int n = Math.min(12, plan.size());
        long least = Long.MAX_VALUE;
        int best = 0;
        for (int set = 0; set < 1 << n; set++) {
            State s = now.trial();
            for (int i = 0; i < n; i++) {
                s.beat(plan.get(i) & ~(1 << m) | (set >> i & 1) << m);
            }
            long more = s.members.get(m).owed - now.members.get(m).owed;
            if (more < least || more == least && Integer.bitCount(set) < Integer.bitCount(best)) {
                least = more;
                best = set;
            }
        }
        return what == 0 ? (int) least : best;
    }

    int laws(int kind) {
        if (kind < 0 || kind > 2) {
            return OUTSIDE;
        }
        State s = now.copy();
        s.kind = kind;
        for (int set : plan) {
            s.beat(set);
        }
        long more = 0;
        for (int m = 0; m < now.members.size(); m++) {
            more += s.members.get(m).owed - now.members.get(m).owed;
        }
        return (int) more;
    }

    int premium(int k, int what) {
        if (k < 0 || k > 50 || what < 0 || what > 1) {
            return OUTSIDE;
        }
        long left = 1000000000;
        for (int i = 0; i < k; i++) {
            left = left * (100 - cough) / 100;
        }
        return (int) (what == 0 ? 1000000000 - left : (1000000000 - left) * now.c / 1000000000);
    }

    int record(int gap, int length) {
        if (gap < 0 || gap > 9 || length < 1 || length > 4) {
            return OUTSIDE;
        }
        if (record.size() == 7) {
            return FULL;
        }
        record.add(new int[] {gap, length});
        return record.size();
    }

    int tear() {
        int was = record.size();
        record.clear();
        return was;
    }

    /** All ways that fit, each as a list of who spoke. */
    private List<int[]> ways() {
        List<int[]> fitting = new ArrayList<>();
        int all = 1;
        for (int i = 0; i < record.size(); i++) {
            all *= now.members.size();
        }
        for (int code = 0; code < all; code++) {
            int[] way = new int[record.size()];
            int left = code;
            for (int i = 0; i < way.length; i++) {
                way[i] = left % now.members.size();
                left /= now.members.size();
            }
            if (fit(way)) {
                fitting.add(way);
            }
        }
        return fitting;
    }

    private boolean fit(int[] way) {
        List<Member> some = new ArrayList<>();
        for (Member one : now.members) {
            some.add(one.copy());
        }
        for (int i = 0; i < way.length; i++) {
            int[] speech = record.get(i);
            if (i > 0 && speech[0] == 0 && way[i] == way[i - 1]) {
                return false;
            }
            for (int b = 0; b < speech[0] + speech[1]; b++) {
                for (int m = 0; m < some.size(); m++) {
                    Member one = some.get(m);
                    if (b >= speech[0] && m == way[i]) {
                        if (!one.can()) {
                            return false;
                        }
                        one.air--;
                        one.left--;
                        one.rests = 0;
                    } else {
                        one.rest();
                    }
                }
            }
        }
        return true;
    }

    int fits() {
        return ways().size();
    }

    int sure(int i) {
        if (i < 0 || i >= record.size()) {
            return OUTSIDE;
        }
        Set<Integer> who = new HashSet<>();
        for (int[] way : ways()) {
            who.add(way[i]);
        }
        return who.size() == 1 ? who.iterator().next() : NONE;
    }

    int seed(int v) {
        if (v < 0) {
            return OUTSIDE;
        }
        int was = (int) now.seed;
        now.seed = v;
        return was;
    }

    int keep(int i) {
        if (i != 0 && i != 1) {
            return UNKNOWN;
        }
        images[i] = now.copy();
        return 1;
    }

    int goBack(int i) {
        if (i != 0 && i != 1) {
            return UNKNOWN;
        }
        if (images[i] == null) {
            return NOT;
        }
        now = images[i].copy();
        return 1;
    }
}
