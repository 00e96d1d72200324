import java.util.ArrayList;
import java.util.List;
import java.util.TreeMap;

/**
 * The document read a second time, as slowly and plainly as it can be: minutes pass one by one, rows and orders are
 * all tried out. It has the face of TollDelay, so that the two can be asked the same.
 */
final class Model {
    static final int NONE = -1, UNKNOWN = -1000000001, OUTSIDE = -1000000002, NOT = -1000000003, FULL = -1000000004;

    private enum Place { WAITS, SITS, PASSED, TURNED }

    private record Matter(int lasts, int leads) {
    }

    private record Traveller(int kind, int hurry, int cannot) {
    }

    private record Entry(int who, int minutes) {
    }

    private record Kept(State state, long seed) {
    }

    private static final class State implements Cloneable {
        int clock, evenings, paid, known;
        List<Integer> told = new ArrayList<>();
        List<Place> places = new ArrayList<>();
        List<Integer> waited = new ArrayList<>();
        List<Integer> sat = new ArrayList<>();

        State copy() {
            State s = new State();
            s.clock = clock;
            s.evenings = evenings;
            s.paid = paid;
            s.known = known;
            s.told = new ArrayList<>(told);
            s.places = new ArrayList<>(places);
            s.waited = new ArrayList<>(waited);
            s.sat = new ArrayList<>(sat);
            return s;
        }
    }

    private StringBuilder text = new StringBuilder();
    private int faultAt = NONE;
    private int q, p;
    private List<Matter> matters = new ArrayList<>();
    private List<Traveller> travellers = new ArrayList<>();
    private State now = new State();
    private final List<State> past = new ArrayList<>();
    private final List<Entry> clues = new ArrayList<>();
    private final List<Entry> book = new ArrayList<>();
    private final Kept[] images = new Kept[2];
    private long seed = 0;

    // ---- the bridge

    int feed(int letter) {
        if (letter < 0 || letter > 255) return OUTSIDE;
        if (text.length() == 240) return FULL;
        text.append((char) letter);
        return text.length();
    }

    private static boolean figure(char c) {
        return c >= '0' && c <= '9';
    }

    int bridge() {
        String s = text.toString();
        text = new StringBuilder();
        List<int[]> clauses = new ArrayList<>();
        List<Integer> open = new ArrayList<>();
        char word = 0;
        int needs = 0, i = 0, fault = 0, ks = 0, ms = 0, ts = 0;
        while (i < s.length() && fault == 0) {
            char c = s.charAt(i);
            int end = i + 1;
            if (c == ' ') {
                i++;
                continue;
            }
            if (word == 0) {
                if (ks == 0 ? c != 'k' : "kmt".indexOf(c) < 0) fault = 1;
                else if (c == 'k' && ks++ == 1 || c == 'm' && ms++ == 8 || c == 't' && ts++ == 6) fault = 3;
                word = c;
                needs = c == 't' ? 3 : 2;
                open.clear();
            } else if (open.size() < needs) {
                while (figure(c) && end < s.length() && figure(s.charAt(end))) end++;
                if (!figure(c)) fault = 1;
                else if (end - i > 3 || !inBounds(word, open.size(), Integer.parseInt(s.substring(i, end)))) fault = 2;
                else open.add(Integer.parseInt(s.substring(i, end)));
            } else if (c != ';') {
                fault = 1;
            } else {
                clauses.add(new int[] {word, open.get(0), open.get(1), needs == 3 ? open.get(2) : 0});
                word = 0;
            }
            if (fault == 0) i = end;
        }
        if (fault == 0 && word != 0) fault = 1;
        faultAt = fault == 0 ? NONE : i;
        if (fault != 0) return -10 - fault;
        build(clauses, ms);
        return travellers.size();
    }

    private static boolean inBounds(char word, int which, int v) {
        String bounds = word == 'k' ? "1 60 1 9" : word == 'm' ? "1 60 0 255" : "0 4 0 9 0 255";
        String[] b = bounds.split(" ");
        return v >= Integer.parseInt(b[2 * which]) && v <= Integer.parseInt(b[2 * which + 1]);
    }

    private void build(List<int[]> clauses, int ms) {
        int all = (1 << ms) - 1;
        q = 0;
        p = 0;
        matters = new ArrayList<>();
        travellers = new ArrayList<>();
        for (int[] c : clauses) {
            if (c[0] == 'k') {
                q = c[1];
                p = c[2];
            } else if (c[0] == 'm') {
                matters.add(new Matter(c[1], c[2] & all));
            } else {
                travellers.add(new Traveller(c[1], c[2], c[3] & all));
            }
        }
        now = new State();
        now.known = matters.isEmpty() ? 0 : 1;
        allWait(now);
        past.clear();
        clues.clear();
        book.clear();
        images[0] = null;
        images[1] = null;
    }

    private void allWait(State s) {
        s.told.clear();
        s.places.clear();
        s.waited.clear();
        s.sat.clear();
        for (int t = 0; t < travellers.size(); t++) {
            s.places.add(Place.WAITS);
            s.waited.add(0);
            s.sat.add(0);
        }
    }

    int fault() {
        return faultAt;
    }

    private boolean noMatter(int m) {
        return m < 0 || m >= matters.size();
    }

    private boolean noTraveller(int t) {
        return t < 0 || t >= travellers.size();
    }

    private static boolean in(int set, int k) {
        return (set & 1 << k) != 0;
    }

    private int who(Place place) {
        int set = 0;
        for (int t = 0; t < now.places.size(); t++) if (now.places.get(t) == place) set |= 1 << t;
        return set;
    }

    private static int sitting(State s) {
        return s.places.indexOf(Place.SITS);
    }

    int told(int what) {
        switch (what) {
            case 0: return q;
            case 1: return p;
            case 2: return matters.size();
            case 3: return travellers.size();
            case 4: return text.length();
            case 5: return now.clock;
            case 6: return now.evenings;
            case 7: return now.paid;
            case 8: return now.known;
            case 9: return sitting(now);
            case 10: {
                int set = 0;
                for (int m : now.told) set |= 1 << m;
                return set;
            }
            case 11: return now.told.isEmpty() ? NONE : now.told.get(now.told.size() - 1);
            case 12: return who(Place.WAITS);
            case 13: return who(Place.PASSED);
            case 14: return who(Place.TURNED);
            case 15: {
                int set = 0;
                for (int m = 0; m < matters.size(); m++) {
                    boolean minded = false;
                    for (Traveller t : travellers) minded |= in(t.cannot, m);
                    if (!minded) set |= 1 << m;
                }
                return set;
            }
            case 16: {
                int best = NONE;
                for (int t = travellers.size() - 1; t >= 0; t--)
                    if (now.sat.get(t) > 0 && (best == NONE || now.sat.get(t) >= now.sat.get(best))) best = t;
                return best;
            }
            case 17: {
                int best = NONE, most = 0;
                for (int m = 0; m < matters.size(); m++) {
                    if (in(now.known, m)) continue;
                    int sum = 0;
                    for (int t = 0; t < travellers.size(); t++) sum += longest(t, now.known | 1 << m)[0] / q * p;
                    if (best == NONE || sum > most) {
                        best = m;
                        most = sum;
                    }
                }
                return best;
            }
            case 18: return clues.size();
            case 19: return book.size();
            case 20: return past.size();
            default: return OUTSIDE;
        }
    }

    int matter(int m, int what) {
        if (noMatter(m)) return UNKNOWN;
        if (what == 0) return matters.get(m).lasts;
        if (what == 1) return matters.get(m).leads;
        if (what != 2 && what != 3) return OUTSIDE;
        int[] steps = new int[8];
        List<Integer> todo = new ArrayList<>();
        int from = m, far = 0;
        for (int next = 0; ; next++) {
            for (int k = 0; k < matters.size(); k++) {
                if (in(matters.get(from).leads, k) && steps[k] == 0) {
                    steps[k] = far + 1;
                    todo.add(k);
                }
            }
            if (next == todo.size()) break;
            from = todo.get(next);
            far = steps[from];
        }
        int set = 0;
        for (int k : todo) set |= 1 << k;
        return what == 2 ? set : steps[m] == 0 ? NONE : steps[m];
    }

    int traveller(int t, int what) {
        if (noTraveller(t)) return UNKNOWN;
        Traveller who = travellers.get(t);
        switch (what) {
            case 0: return who.kind;
            case 1: return who.hurry;
            case 2: return who.cannot;
            case 3: return now.sat.get(t);
            case 4: return now.waited.get(t);
            case 5: {
                State s = now.copy();
                int more = 0;
                if (s.places.get(t) != Place.WAITS) return 0;
                for (pass(s, 1); s.places.get(t) == Place.WAITS; pass(s, 1)) more++;
                return more;
            }
            case 6: {
                int best = NONE;
                for (int m = matters.size() - 1; m >= 0; m--)
                    if (stay(t, m) > 0 && (best == NONE || stay(t, m) >= stay(t, best))) best = m;
                return best;
            }
            default: return OUTSIDE;
        }
    }

    // ---- deeds

    private void remember() {
        past.add(now.copy());
        if (past.size() > 30) past.remove(0);
    }

    private void pass(State s, int n) {
        for (int i = 0; i < n; i++) {
            s.clock++;
            for (int t = 0; t < travellers.size(); t++) {
                if (s.places.get(t) != Place.WAITS) continue;
                s.waited.set(t, s.waited.get(t) + 1);
                if (s.waited.get(t) > 60 - 5 * travellers.get(t).hurry) s.places.set(t, Place.TURNED);
            }
        }
    }

    int seat(int t) {
        if (noTraveller(t)) return UNKNOWN;
        if (sitting(now) != NONE || now.places.get(t) != Place.WAITS) return NOT;
        remember();
        now.places.set(t, Place.SITS);
        return now.waited.get(t);
    }

    int tell(int m) {
        if (noMatter(m)) return UNKNOWN;
        if (sitting(now) == NONE || !in(now.known, m) || now.told.contains(m)) return NOT;
        remember();
        return telling(m);
    }

    private int telling(int m) {
        if (!now.told.isEmpty() && !in(matters.get(told(11)).leads, m)) {
            rising();
            return NONE;
        }
        int t = sitting(now), v = stay(t, m);
        now.told.add(m);
        now.sat.set(t, now.sat.get(t) + v);
        pass(now, v);
        return v;
    }

    int rise() {
        if (sitting(now) == NONE) return NOT;
        remember();
        return rising();
    }

    private int rising() {
        int t = sitting(now), before = now.paid;
        now.places.set(t, Place.PASSED);
        now.told.clear();
        now.paid = Math.min(999999, now.paid + now.sat.get(t) / q * p);
        if (travellers.get(t).kind == 3) {
            for (int m = 0; m < matters.size(); m++) {
                if (in(travellers.get(t).cannot, m) && !in(now.known, m)) {
                    now.known |= 1 << m;
                    break;
                }
            }
        }
        return now.paid - before;
    }

    int learn(int m) {
        if (noMatter(m)) return UNKNOWN;
        if (in(now.known, m)) return NOT;
        remember();
        now.known |= 1 << m;
        pass(now, 60);
        return Integer.bitCount(now.known);
    }

    int minute(int n) {
        if (n < 1 || n > 60) return OUTSIDE;
        if (q == 0) return NOT;
        if (now.clock > 900000) return FULL;
        remember();
        pass(now, n);
        return now.clock;
    }

    int anew() {
        if (q == 0) return NOT;
        if (now.evenings == 9000) return FULL;
        remember();
        allWait(now);
        return ++now.evenings;
    }

    private int draw(int n) {
        seed = (seed * 1103515245L + 12345L) & 0x7fffffffL;
        return (int) ((seed >> 16) % n);
    }

    int drift(int n) {
        if (n < 1 || n > 30) return OUTSIDE;
        if (q == 0) return NOT;
        if (now.clock > 900000) return FULL;
        for (int i = 0; i < n; i++) {
            remember();
            boolean sat = sitting(now) != NONE;
            if (!sat && !travellers.isEmpty()) {
                int t = draw(travellers.size());
                if (now.places.get(t) == Place.WAITS) now.places.set(t, Place.SITS);
            }
            if (sat) {
                if (draw(4) == 0) {
                    rising();
                } else if (!matters.isEmpty()) {
                    int m = draw(matters.size());
                    if (in(now.known, m) && !now.told.contains(m)) telling(m);
                }
            }
            pass(now, 1);
        }
        return now.clock;
    }

    int undo(int n) {
        if (n < 1 || n > 30) return OUTSIDE;
        if (n > past.size()) return NOT;
        for (int i = 0; i < n; i++) now = past.remove(past.size() - 1);
        return now.clock;
    }

    // ---- tried

    int stay(int t, int m) {
        if (noTraveller(t) || noMatter(m)) return UNKNOWN;
        Traveller who = travellers.get(t);
        int lasts = matters.get(m).lasts;
        if (!in(who.cannot, m) || who.kind == 4) return 0;
        if (who.kind == 0) return lasts - who.hurry < 1 ? 1 : lasts - who.hurry;
        if (who.kind == 1) return lasts;
        if (who.kind == 2) return lasts / 2 - who.hurry < 0 ? 0 : lasts / 2 - who.hurry;
        for (int k = 0; k < matters.size(); k++) if (in(matters.get(m).leads, k)) lasts += 5;
        return lasts;
    }

    /** Minutes, how many, and the row itself as a number to the base 10, each matter 1 more. */
    private int[] longest(int t, int known) {
        int[] best = {0, 0, 0};
        for (int m = 0; m < matters.size(); m++) if (in(known, m)) walk(t, known, m, 0, 0, 0, best);
        return best;
    }

    private void walk(int t, int known, int m, int row, int minutes, int many, int[] best) {
        int left = known & ~(1 << m), r = row * 10 + m + 1, v = minutes + stay(t, m), n = many + 1;
        if (v > best[0] || v > 0 && v == best[0] && (n < best[1] || n == best[1] && r < best[2])) {
            best[0] = v;
            best[1] = n;
            best[2] = r;
        }
        for (int k = 0; k < matters.size(); k++)
            if (in(left, k) && in(matters.get(m).leads, k)) walk(t, left, k, r, v, n, best);
    }

    int talk(int t, int what) {
        if (noTraveller(t)) return UNKNOWN;
        if (what < 0 || what > 3) return OUTSIDE;
        int[] best = longest(t, now.known);
        if (what == 0) return best[0];
        if (what == 1) return best[1] == 0 ? NONE : String.valueOf(best[2]).charAt(0) - '1';
        return what == 2 ? best[1] : best[0] / q * p;
    }

    int queue(int what) {
        if (what != 0 && what != 1) return OUTSIDE;
        if (sitting(now) != NONE) return NOT;
        int[] best = {-1, 0};
        int[] talks = new int[travellers.size()];
        for (int t = 0; t < talks.length; t++) talks[t] = longest(t, now.known)[0];
        hold(now.copy(), who(Place.WAITS), talks, 0, best);
        return best[what];
    }

    private void hold(State s, int left, int[] talks, int figures, int[] best) {
        int paid = s.paid - now.paid;
        if (left == 0 && (paid > best[0] || paid == best[0] && figures < best[1])) {
            best[0] = paid;
            best[1] = figures;
        }
        for (int t = 0; t < talks.length; t++) {
            if (!in(left, t)) continue;
            State then = s.copy();
            if (then.places.get(t) == Place.WAITS) {
                then.places.set(t, Place.PASSED);
                pass(then, talks[t]);
                then.paid += talks[t] / q * p;
            }
            hold(then, left & ~(1 << t), talks, figures * 10 + t + 1, best);
        }
    }

    int dry(int n, int of100) {
        if (n < 0 || n > 60 || of100 < 0 || of100 > 100) return OUTSIDE;
        return n == 0 ? 1000000000 : (int) ((long) dry(n - 1, of100) * of100 / 100);
    }

    // ---- what stayed

    int stayed(int t, int v) {
        if (noTraveller(t)) return UNKNOWN;
        if (v < 0 || v > 100) return OUTSIDE;
        if (clues.size() == 6) return FULL;
        clues.add(new Entry(t, v));
        return clues.size();
    }

    int couldBe() {
        int set = (1 << matters.size()) - 1;
        for (Entry e : clues) {
            for (int m = 0; m < matters.size(); m++) if (stay(e.who, m) != e.minutes) set &= ~(1 << m);
        }
        return set;
    }

    int ask() {
        int set = couldBe(), best = NONE, least = Integer.MAX_VALUE;
        for (int t = 0; t < travellers.size(); t++) {
            TreeMap<Integer, Integer> parts = new TreeMap<>();
            for (int m = 0; m < matters.size(); m++) if (in(set, m)) parts.merge(stay(t, m), 1, Integer::sum);
            int greatest = 0;
            for (int part : parts.values()) greatest = Math.max(greatest, part);
            if (parts.size() > 1 && greatest < least) {
                best = t;
                least = greatest;
            }
        }
        return best;
    }

    int write(int t, int sat) {
        if (noTraveller(t)) return UNKNOWN;
        if (sat < 0 || sat > 9999) return OUTSIDE;
        if (book.size() == 20) return FULL;
        book.add(new Entry(t, sat));
        return book.size();
    }

    int judge() {
        for (int i = 0; i < book.size(); i++) if (now.sat.get(book.get(i).who) != book.get(i).minutes) return i;
        return NONE;
    }

    int tear() {
        int both = clues.size() + book.size();
        clues.clear();
        book.clear();
        return both;
    }

    // ---- images

    int seed(int v) {
        if (v < 0) return OUTSIDE;
        int was = (int) seed;
        seed = v;
        return was;
    }

    int keep(int i) {
        if (i != 0 && i != 1) return UNKNOWN;
        images[i] = new Kept(now.copy(), seed);
        past.clear();
        return 1;
    }

    int goBack(int i) {
        if (i != 0 && i != 1) return UNKNOWN;
        if (images[i] == null) return NOT;
        now = images[i].state.copy();
        seed = images[i].seed;
        past.clear();
        return 1;
    }
}
