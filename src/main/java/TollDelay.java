/**
 * A toll bridge whose keeper is paid by how long he delays his travellers.
 *
 * The bridge is told letter by letter in a text; then deeds are done on it, undone, drifted by draws and kept as
 * images, and questions are asked of it. Every call answers a number; a refusal is one of the constants below.
 */
public final class TollDelay {
    public static final int NONE = -1, UNKNOWN = -1000000001, OUTSIDE = -1000000002, NOT = -1000000003, FULL = -1000000004;

    private static final int BILLION = 1000000000;
    private static final int MOST_LETTERS = 240;
    private static final int MOST_MATTERS = 8;
    private static final int MOST_TRAVELLERS = 6;
    private static final int MOST_SETS = 256;
    private static final int MOST_ORDERS = 720;
    private static final int MOST_PAID = 999999;
    private static final int MOST_CLOCK = 900000;
    private static final int MOST_EVENINGS = 9000;
    private static final int MOST_UNDONE = 30;
    private static final int MOST_STAYED = 6;
    private static final int MOST_ENTRIES = 20;
    private static final int IMAGES = 2;
    private static final int LEARNING_MINUTES = 60;

    private final Reader reader = new Reader();
    private final Evening evening = new Evening();
    private final Past past = new Past();
    private final Image[] images = new Image[IMAGES];
    private final Talk trial = new Talk();
    private final Line line = new Line();
    private final Entries clues = new Entries(MOST_STAYED);
    private final Entries book = new Entries(MOST_ENTRIES);
    /** Two bridges change places, so that a text with a fault leaves the one that stands as it was. */
    private Bridge stands = new Bridge();
    private Bridge draft = new Bridge();
    /** THE SEED: what the latest draw made of it. */
    private int drawn = 0;
    private int faultAt = NONE;

    public TollDelay() {
        for (int i = 0; i < images.length; i++) {
            images[i] = new Image();
        }
    }

    // ---- the bridge

    public int feed(int letter) {
        if (letter < 0 || letter > 255) {
            return OUTSIDE;
        }
        return reader.add(letter) ? reader.length : FULL;
    }

    public int bridge() {
        reader.readInto(draft);
        reader.empty();
        faultAt = reader.faultAt;
        if (reader.faultKind != 0) {
            return -10 - reader.faultKind;
        }
        Bridge old = stands;
        stands = draft;
        draft = old;
        beginBridge();
        return stands.travellers;
    }

    private void beginBridge() {
        evening.begin(stands);
        past.forget();
        clues.forget();
        book.forget();
        for (int i = 0; i < images.length; i++) {
            images[i].kept = false;
        }
    }

    public int fault() {
        return faultAt;
    }

    public int told(int what) {
        switch (what) {
            case 0: return stands.quarter;
            case 1: return stands.rate;
            case 2: return stands.matters;
            case 3: return stands.travellers;
            case 4: return reader.length;
            case 15: return stands.nobodys();
            case 16: return evening.longestSat(stands);
            case 17: return trial.bestToLearn(stands, evening.known);
            case 18: return clues.count;
            case 19: return book.count;
            case 20: return past.count;
            default: return toldOfEvening(what);
        }
    }

    private int toldOfEvening(int what) {
        switch (what) {
            case 5: return evening.clock;
            case 6: return evening.evenings;
            case 7: return evening.paid;
            case 8: return evening.known;
            case 9: return evening.sits;
            case 10: return evening.toldHim;
            case 11: return evening.toldLast;
            case 12: return evening.waits;
            case 13: return evening.passed;
            case 14: return evening.turned;
            default: return OUTSIDE;
        }
    }

    public int matter(int m, int what) {
        if (!stands.hasMatter(m)) {
            return UNKNOWN;
        }
        switch (what) {
            case 0: return stands.lasts[m];
            case 1: return stands.leadsTo[m];
            case 2: return stands.leadsFrom(m);
            case 3: return stands.stepsRound(m);
            default: return OUTSIDE;
        }
    }

    public int traveller(int t, int what) {
        if (!stands.hasTraveller(t)) {
            return UNKNOWN;
        }
        switch (what) {
            case 0: return stands.kind[t];
            case 1: return stands.hurry[t];
            case 2: return stands.cannot[t];
            case 3: return evening.sat[t];
            case 4: return evening.waited[t];
            case 5: return evening.patienceOf(stands, t);
            case 6: return stands.favouriteOf(t);
            default: return OUTSIDE;
        }
    }

    // ---- deeds

    public int seat(int t) {
        if (!stands.hasTraveller(t)) {
            return UNKNOWN;
        }
        if (evening.sits != NONE || !holds(evening.waits, t)) {
            return NOT;
        }
        past.remember(evening);
        evening.takeSeat(t);
        return evening.waited[t];
    }

    public int tell(int m) {
        if (!stands.hasMatter(m)) {
            return UNKNOWN;
        }
        if (!evening.canHear(m)) {
            return NOT;
        }
        past.remember(evening);
        return evening.hear(stands, m);
    }

    public int rise() {
        if (evening.sits == NONE) {
            return NOT;
        }
        past.remember(evening);
        return evening.leaveSeat(stands);
    }

    public int learn(int m) {
        if (!stands.hasMatter(m)) {
            return UNKNOWN;
        }
        if (holds(evening.known, m)) {
            return NOT;
        }
        past.remember(evening);
        evening.known |= 1 << m;
        evening.passMinutes(stands, LEARNING_MINUTES);
        return Integer.bitCount(evening.known);
    }

    public int minute(int n) {
        if (n < 1 || n > 60) {
            return OUTSIDE;
        }
        if (!stands.isThere()) {
            return NOT;
        }
        if (evening.clock > MOST_CLOCK) {
            return FULL;
        }
        past.remember(evening);
        evening.passMinutes(stands, n);
        return evening.clock;
    }

    public int anew() {
        if (!stands.isThere()) {
            return NOT;
        }
        if (evening.evenings >= MOST_EVENINGS) {
            return FULL;
        }
        past.remember(evening);
        evening.evenings++;
        evening.gather(stands);
        return evening.evenings;
    }

    public int drift(int n) {
        if (n < 1 || n > 30) {
            return OUTSIDE;
        }
        if (!stands.isThere()) {
            return NOT;
        }
        if (evening.clock > MOST_CLOCK) {
            return FULL;
        }
        for (int i = 0; i < n; i++) {
            past.remember(evening);
            driftOnce();
        }
        return evening.clock;
    }

    private void driftOnce() {
        if (evening.sits == NONE) {
            drawSeat();
        } else {
            drawTelling();
        }
        evening.passMinutes(stands, 1);
    }

    private void drawSeat() {
        if (stands.travellers == 0) {
            return;
        }
        int t = drawOf(stands.travellers);
        if (holds(evening.waits, t)) {
            evening.takeSeat(t);
        }
    }

    private void drawTelling() {
        if (drawOf(4) == 0) {
            evening.leaveSeat(stands);
            return;
        }
        if (stands.matters == 0) {
            return;
        }
        int m = drawOf(stands.matters);
        if (evening.canHear(m)) {
            evening.hear(stands, m);
        }
    }

    private int drawOf(int n) {
        drawn = (int) ((drawn * 1103515245L + 12345L) % 2147483648L);
        return n < 1 ? 0 : drawn / 65536 % n;
    }

    public int undo(int n) {
        if (n < 1 || n > MOST_UNDONE) {
            return OUTSIDE;
        }
        if (n > past.count) {
            return NOT;
        }
        past.takeBack(n, evening);
        return evening.clock;
    }

    // ---- tried

    public int stay(int t, int m) {
        if (!stands.hasTraveller(t) || !stands.hasMatter(m)) {
            return UNKNOWN;
        }
        return stands.stayOf(t, m);
    }

    public int talk(int t, int what) {
        if (!stands.hasTraveller(t)) {
            return UNKNOWN;
        }
        if (what < 0 || what > 3) {
            return OUTSIDE;
        }
        trial.tryWith(stands, t, evening.known);
        switch (what) {
            case 0: return trial.minutes;
            case 1: return trial.first;
            case 2: return trial.count;
            default: return stands.payFor(trial.minutes);
        }
    }

    public int queue(int what) {
        if (what < 0 || what > 1) {
            return OUTSIDE;
        }
        if (evening.sits != NONE) {
            return NOT;
        }
        line.fill(stands, evening, trial);
        line.tryOrders();
        return what == 0 ? line.bestPay : line.bestFigures;
    }

    public int dry(int n, int q) {
        if (n < 0 || n > 60 || q < 0 || q > 100) {
            return OUTSIDE;
        }
        long odds = BILLION;
        for (int i = 0; i < n; i++) {
            odds = odds * q / 100;
        }
        return (int) odds;
    }

    // ---- what stayed

    public int stayed(int t, int v) {
        if (!stands.hasTraveller(t)) {
            return UNKNOWN;
        }
        if (v < 0 || v > 100) {
            return OUTSIDE;
        }
        return clues.add(t, v) ? clues.count : FULL;
    }

    public int couldBe() {
        return clues.fitting(stands);
    }

    public int ask() {
        return Asking.bestOf(stands, clues.fitting(stands));
    }

    public int write(int t, int sat) {
        if (!stands.hasTraveller(t)) {
            return UNKNOWN;
        }
        if (sat < 0 || sat > 9999) {
            return OUTSIDE;
        }
        return book.add(t, sat) ? book.count : FULL;
    }

    public int judge() {
        return book.firstWrong(evening.sat);
    }

    public int tear() {
        int torn = clues.count + book.count;
        clues.forget();
        book.forget();
        return torn;
    }

    // ---- images

    public int seed(int v) {
        if (v < 0) {
            return OUTSIDE;
        }
        int old = drawn;
        drawn = v;
        return old;
    }

    public int keep(int i) {
        if (i < 0 || i >= images.length) {
            return UNKNOWN;
        }
        Image image = images[i];
        image.evening.copyFrom(evening);
        image.drawn = drawn;
        image.kept = true;
        past.forget();
        return 1;
    }

    public int goBack(int i) {
        if (i < 0 || i >= images.length) {
            return UNKNOWN;
        }
        Image image = images[i];
        if (!image.kept) {
            return NOT;
        }
        evening.copyFrom(image.evening);
        drawn = image.drawn;
        past.forget();
        return 1;
    }

    // ---- sets

    private static boolean holds(int set, int k) {
        return k >= 0 && k < 31 && (set >> k & 1) != 0;
    }

    /** The set of 0 .. n - 1; n stays far below 31 here. */
    private static int setOfFirst(int n) {
        return (1 << n) - 1;
    }

    private static int leastOf(int set) {
        for (int k = 0; k < 31; k++) {
            if (holds(set, k)) {
                return k;
            }
        }
        return NONE;
    }

    /** What the text told: the rate, the matters, the travellers, and what follows from these alone. */
    private static final class Bridge {
        private static final int PLAIN = 0, WIDOWER = 1, MERCHANT = 2, PROFESSOR = 3;

        /** 0: there is no bridge. */
        int quarter = 0;
        int rate = 0;
        int matters = 0;
        int travellers = 0;
        final int[] lasts = new int[MOST_MATTERS];
        final int[] leadsTo = new int[MOST_MATTERS];
        final int[] kind = new int[MOST_TRAVELLERS];
        final int[] hurry = new int[MOST_TRAVELLERS];
        final int[] cannot = new int[MOST_TRAVELLERS];
        /** For each set of matters, those with which a row of just that set can begin: a row's minutes hang on its set alone. */
        final int[] beginners = new int[MOST_SETS];

        void clear() {
            quarter = 0;
            rate = 0;
            matters = 0;
            travellers = 0;
        }

        boolean isThere() {
            return quarter > 0;
        }

        boolean hasMatter(int m) {
            return m >= 0 && m < matters && m < MOST_MATTERS;
        }

        boolean hasTraveller(int t) {
            return t >= 0 && t < travellers && t < MOST_TRAVELLERS;
        }

        void addMatter(int minutes, int set) {
            if (matters < MOST_MATTERS) {
                lasts[matters] = minutes;
                leadsTo[matters] = set;
                matters++;
            }
        }

        void addTraveller(int k, int h, int set) {
            if (travellers < MOST_TRAVELLERS) {
                kind[travellers] = k;
                hurry[travellers] = h;
                cannot[travellers] = set;
                travellers++;
            }
        }

        /** Only behind the last clause is it known which matters there are. */
        void settle() {
            int all = setOfFirst(matters);
            for (int m = 0; m < matters; m++) {
                leadsTo[m] &= all;
            }
            for (int t = 0; t < travellers; t++) {
                cannot[t] &= all;
            }
            for (int set = 1; set <= all; set++) {
                beginners[set] = beginnersOf(set);
            }
        }

        private int beginnersOf(int set) {
            int found = 0;
            for (int m = 0; m < matters; m++) {
                int rest = set & ~(1 << m);
                if (holds(set, m) && (rest == 0 || (leadsTo[m] & beginners[rest]) != 0)) {
                    found |= 1 << m;
                }
            }
            return found;
        }

        int stayOf(int t, int m) {
            if (!hasTraveller(t) || !hasMatter(m) || !holds(cannot[t], m)) {
                return 0;
            }
            switch (kind[t]) {
                case PLAIN: return Math.max(1, lasts[m] - hurry[t]);
                case WIDOWER: return lasts[m];
                case MERCHANT: return Math.max(0, lasts[m] / 2 - hurry[t]);
                case PROFESSOR: return lasts[m] + 5 * Integer.bitCount(leadsTo[m]);
                default: return 0;
            }
        }

        boolean isProfessor(int t) {
            return hasTraveller(t) && kind[t] == PROFESSOR;
        }

        /** The longest that a traveller waits without turning back. */
        int mostWaiting(int t) {
            return hasTraveller(t) ? 60 - 5 * hurry[t] : 0;
        }

        int payFor(int minutes) {
            return quarter < 1 ? 0 : minutes / quarter * rate;
        }

        private int oneStepFrom(int set) {
            int reached = 0;
            for (int m = 0; m < matters; m++) {
                if (holds(set, m)) {
                    reached |= leadsTo[m];
                }
            }
            return reached;
        }

        int leadsFrom(int m) {
            int reached = hasMatter(m) ? leadsTo[m] : 0;
            for (int steps = 1; steps < matters; steps++) {
                reached |= oneStepFrom(reached);
            }
            return reached;
        }

        int stepsRound(int m) {
            int reached = hasMatter(m) ? leadsTo[m] : 0;
            for (int steps = 1; steps <= matters; steps++) {
                if (holds(reached, m)) {
                    return steps;
                }
                reached = oneStepFrom(reached);
            }
            return NONE;
        }

        int nobodys() {
            int minded = 0;
            for (int t = 0; t < travellers; t++) {
                minded |= cannot[t];
            }
            return setOfFirst(matters) & ~minded;
        }

        int favouriteOf(int t) {
            int favourite = NONE;
            int longest = 0;
            for (int m = 0; m < matters; m++) {
                int minutes = stayOf(t, m);
                if (minutes > longest) {
                    longest = minutes;
                    favourite = m;
                }
            }
            return favourite;
        }
    }

    /** Holds THE TEXT and reads it, up to its first fault, into a bridge. */
    private static final class Reader {
        private static final int CANNOT_STAND = 1, BAD_NUMBER = 2, TOO_MANY = 3;
        private static final int MOST_FIGURES = 3;

        final int[] letters = new int[MOST_LETTERS];
        int length = 0;
        int at = 0;
        /** 0: none was found. */
        int faultKind = 0;
        int faultAt = NONE;

        boolean add(int letter) {
            if (length >= letters.length) {
                return false;
            }
            letters[length] = letter;
            length++;
            return true;
        }

        void empty() {
            length = 0;
        }

        void readInto(Bridge draft) {
            at = 0;
            faultKind = 0;
            faultAt = NONE;
            draft.clear();
            skipBlanks();
            for (int clauses = 0; clauses < MOST_LETTERS && at < length && faultKind == 0; clauses++) {
                readClause(draft);
                skipBlanks();
            }
            if (faultKind == 0) {
                draft.settle();
            }
        }

        /** The letter that comes next; NONE at the end. */
        private int nextLetter() {
            return at >= 0 && at < length && at < letters.length ? letters[at] : NONE;
        }

        private void skipBlanks() {
            while (at < length && nextLetter() == ' ') {
                at++;
            }
        }

        /** Only the first fault counts: reading goes on to the clause's end behind it, in vain. */
        private void note(int kind, int place) {
            if (faultKind == 0) {
                faultKind = kind;
                faultAt = place;
            }
        }

        private void readClause(Bridge draft) {
            int word = nextLetter();
            int wrong = faultOfWord(draft, word);
            if (wrong != 0) {
                note(wrong, at);
                return;
            }
            at++;
            if (word == 'k') {
                readRate(draft);
            } else if (word == 'm') {
                readMatter(draft);
            } else {
                readTraveller(draft);
            }
        }

        private static int faultOfWord(Bridge draft, int word) {
            if (word == 'k') {
                return draft.isThere() ? TOO_MANY : 0;
            }
            if (!draft.isThere()) {
                return CANNOT_STAND;
            }
            if (word == 'm') {
                return draft.matters >= MOST_MATTERS ? TOO_MANY : 0;
            }
            if (word == 't') {
                return draft.travellers >= MOST_TRAVELLERS ? TOO_MANY : 0;
            }
            return CANNOT_STAND;
        }

        private void readRate(Bridge draft) {
            int q = readNumber(1, 60);
            int p = readNumber(1, 9);
            if (readEnd()) {
                draft.quarter = q;
                draft.rate = p;
            }
        }

        private void readMatter(Bridge draft) {
            int minutes = readNumber(1, 60);
            int set = readNumber(0, 255);
            if (readEnd()) {
                draft.addMatter(minutes, set);
            }
        }

        private void readTraveller(Bridge draft) {
            int k = readNumber(0, 4);
            int h = readNumber(0, 9);
            int set = readNumber(0, 255);
            if (readEnd()) {
                draft.addTraveller(k, h, set);
            }
        }

        private int readNumber(int least, int most) {
            skipBlanks();
            int place = at;
            int value = 0;
            while (at < length && isFigure(nextLetter())) {
                if (at - place < MOST_FIGURES) {
                    value = value * 10 + (nextLetter() - '0');
                }
                at++;
            }
            if (at == place) {
                note(CANNOT_STAND, place);
            } else if (at - place > MOST_FIGURES || value < least || value > most) {
                note(BAD_NUMBER, place);
            }
            return value;
        }

        private static boolean isFigure(int letter) {
            return letter >= '0' && letter <= '9';
        }

        /** The ';' of a clause: whether the whole clause is sound. */
        private boolean readEnd() {
            skipBlanks();
            if (nextLetter() != ';') {
                note(CANNOT_STAND, at);
            }
            at++;
            return faultKind == 0;
        }
    }

    /** All of the document's section 2: where everybody is, what is known and paid, the clock. */
    private static final class Evening {
        int clock = 0;
        int evenings = 0;
        int paid = 0;
        int known = 0;
        int sits = NONE;
        int toldHim = 0;
        int toldLast = NONE;
        int waits = 0;
        int passed = 0;
        int turned = 0;
        final int[] waited = new int[MOST_TRAVELLERS];
        final int[] sat = new int[MOST_TRAVELLERS];

        void begin(Bridge bridge) {
            clock = 0;
            evenings = 0;
            paid = 0;
            known = bridge.matters > 0 ? 1 : 0;
            gather(bridge);
        }

        void gather(Bridge bridge) {
            emptySeat();
            waits = setOfFirst(bridge.travellers);
            passed = 0;
            turned = 0;
            for (int t = 0; t < MOST_TRAVELLERS; t++) {
                waited[t] = 0;
                sat[t] = 0;
            }
        }

        private void emptySeat() {
            sits = NONE;
            toldHim = 0;
            toldLast = NONE;
        }

        void copyFrom(Evening other) {
            clock = other.clock;
            evenings = other.evenings;
            paid = other.paid;
            known = other.known;
            sits = other.sits;
            toldHim = other.toldHim;
            toldLast = other.toldLast;
            waits = other.waits;
            passed = other.passed;
            turned = other.turned;
            for (int t = 0; t < MOST_TRAVELLERS; t++) {
                waited[t] = other.waited[t];
                sat[t] = other.sat[t];
            }
        }

        void takeSeat(int t) {
            waits &= ~(1 << t);
            sits = t;
        }

        boolean canHear(int m) {
            return sits != NONE && holds(known, m) && !holds(toldHim, m);
        }

        /** Tells who sits a matter that he can hear: his stay; NONE: he rose. */
        int hear(Bridge bridge, int m) {
            if (!bridge.hasTraveller(sits) || !follows(bridge, m)) {
                leaveSeat(bridge);
                return NONE;
            }
            int minutes = bridge.stayOf(sits, m);
            toldHim |= 1 << m;
            toldLast = m;
            sat[sits] += minutes;
            passMinutes(bridge, minutes);
            return minutes;
        }

        private boolean follows(Bridge bridge, int m) {
            return !bridge.hasMatter(toldLast) || holds(bridge.leadsTo[toldLast], m);
        }

        /** Who sits rises: what is paid for him. */
        int leaveSeat(Bridge bridge) {
            int t = sits;
            emptySeat();
            if (!bridge.hasTraveller(t)) {
                return 0;
            }
            passed |= 1 << t;
            int pay = Math.min(bridge.payFor(sat[t]), MOST_PAID - paid);
            paid += pay;
            if (bridge.isProfessor(t)) {
                takeUp(bridge.cannot[t]);
            }
            return pay;
        }

        /** The keeper knows the least new matter of a set from now on: x & -x is the least bit of x, and 0 of 0. */
        private void takeUp(int set) {
            int fresh = set & ~known;
            known |= fresh & -fresh;
        }

        /** Who turns back waits no more: his minutes stand still at the first that was too many. */
        void passMinutes(Bridge bridge, int n) {
            clock += n;
            for (int t = 0; t < bridge.travellers; t++) {
                if (holds(waits, t)) {
                    int tooLong = bridge.mostWaiting(t) + 1;
                    waited[t] = Math.min(waited[t] + n, tooLong);
                    if (waited[t] >= tooLong) {
                        waits &= ~(1 << t);
                        turned |= 1 << t;
                    }
                }
            }
        }

        int patienceOf(Bridge bridge, int t) {
            return bridge.hasTraveller(t) && holds(waits, t) ? bridge.mostWaiting(t) - waited[t] : 0;
        }

        int longestSat(Bridge bridge) {
            int who = NONE;
            int longest = 0;
            for (int t = 0; t < bridge.travellers; t++) {
                if (sat[t] > longest) {
                    longest = sat[t];
                    who = t;
                }
            }
            return who;
        }
    }

    /** The evenings as they were ahead of the latest deeds, in a ring: the oldest gives way. */
    private static final class Past {
        final Evening[] ring = new Evening[MOST_UNDONE];
        int count = 0;
        private int next = 0;

        Past() {
            for (int i = 0; i < ring.length; i++) {
                ring[i] = new Evening();
            }
        }

        void remember(Evening evening) {
            ring[next].copyFrom(evening);
            next = (next + 1) % MOST_UNDONE;
            count = Math.min(count + 1, MOST_UNDONE);
        }

        void takeBack(int n, Evening evening) {
            if (n < 1 || n > count) {
                return;
            }
            next = (next + MOST_UNDONE - n) % MOST_UNDONE;
            count -= n;
            evening.copyFrom(ring[next]);
        }

        void forget() {
            count = 0;
        }
    }

    /** An evening that is kept to go on from, with THE SEED. */
    private static final class Image {
        final Evening evening = new Evening();
        int drawn = 0;
        boolean kept = false;
    }

    /** TALK: the longest row of known matters for one traveller, and which matter would pay best. */
    private static final class Talk {
        private final int[] sums = new int[MOST_SETS];
        int minutes = 0;
        int first = NONE;
        int count = 0;

        void tryWith(Bridge bridge, int t, int known) {
            minutes = 0;
            first = NONE;
            count = 0;
            int all = setOfFirst(bridge.matters);
            for (int set = 1; set <= all; set++) {
                if ((set & ~known) == 0) {
                    sums[set] = sums[set & set - 1] + bridge.stayOf(t, leastOf(set));
                    weigh(set, bridge.beginners[set]);
                }
            }
        }

        /** Like rows of as many matters differ, for what is asked, by their first matter alone. */
        private void weigh(int set, int beginners) {
            if (beginners == 0 || sums[set] == 0 || sums[set] < minutes) {
                return;
            }
            int many = Integer.bitCount(set);
            int begin = leastOf(beginners);
            if (sums[set] > minutes || many < count || many == count && begin < first) {
                minutes = sums[set];
                first = begin;
                count = many;
            }
        }

        private int worthOfAll(Bridge bridge, int known) {
            int worth = 0;
            for (int t = 0; t < bridge.travellers; t++) {
                tryWith(bridge, t, known);
                worth += bridge.payFor(minutes);
            }
            return worth;
        }

        int bestToLearn(Bridge bridge, int known) {
            int best = NONE;
            int most = -1;
            for (int m = 0; m < bridge.matters; m++) {
                int worth = holds(known, m) ? -1 : worthOfAll(bridge, known | 1 << m);
                if (worth > most) {
                    most = worth;
                    best = m;
                }
            }
            return best;
        }
    }

    /** QUEUE: all orders of those who wait, the least figures first, so that the first of the best is the one. */
    private static final class Line {
        private final int[] order = new int[MOST_TRAVELLERS];
        private final int[] minutes = new int[MOST_TRAVELLERS];
        private final int[] pay = new int[MOST_TRAVELLERS];
        private final int[] patience = new int[MOST_TRAVELLERS];
        private int size = 0;
        int bestPay = 0;
        int bestFigures = 0;

        void fill(Bridge bridge, Evening evening, Talk talk) {
            size = 0;
            for (int t = 0; t < bridge.travellers; t++) {
                if (holds(evening.waits, t)) {
                    talk.tryWith(bridge, t, evening.known);
                    minutes[t] = talk.minutes;
                    pay[t] = bridge.payFor(talk.minutes);
                    patience[t] = evening.patienceOf(bridge, t);
                    order[size] = t;
                    size++;
                }
            }
        }

        void tryOrders() {
            bestPay = -1;
            bestFigures = 0;
            boolean more = true;
            for (int i = 0; i < MOST_ORDERS && more; i++) {
                int sum = payOfOrder();
                if (sum > bestPay) {
                    bestPay = sum;
                    bestFigures = figuresOfOrder();
                }
                more = nextOrder();
            }
        }

        private int payOfOrder() {
            int gone = 0;
            int sum = 0;
            for (int i = 0; i < size; i++) {
                int t = order[i];
                if (gone <= patience[t]) {
                    gone += minutes[t];
                    sum += pay[t];
                }
            }
            return sum;
        }

        private int figuresOfOrder() {
            int figures = 0;
            for (int i = 0; i < size; i++) {
                figures = figures * 10 + order[i] + 1;
            }
            return figures;
        }

        /** Puts the order into the next greater one; false if it is the greatest. */
        private boolean nextOrder() {
            int falls = size - 2;
            while (falls >= 0 && order[falls] > order[falls + 1]) {
                falls--;
            }
            if (falls < 0) {
                return false;
            }
            int greater = size - 1;
            while (greater > falls && order[greater] < order[falls]) {
                greater--;
            }
            swap(falls, greater);
            for (int i = falls + 1, j = size - 1; i < j; i++, j--) {
                swap(i, j);
            }
            return true;
        }

        private void swap(int i, int j) {
            int held = order[i];
            order[i] = order[j];
            order[j] = held;
        }
    }

    /** Entries of a traveller and minutes: of what stayed, or of the book. */
    private static final class Entries {
        final int[] who;
        final int[] minutes;
        int count = 0;

        Entries(int most) {
            who = new int[Math.max(0, most)];
            minutes = new int[Math.max(0, most)];
        }

        boolean add(int t, int v) {
            if (count >= who.length || count >= minutes.length) {
                return false;
            }
            who[count] = t;
            minutes[count] = v;
            count++;
            return true;
        }

        void forget() {
            count = 0;
        }

        /** WRONG: the first entry that is otherwise than what each sat. */
        int firstWrong(int[] sat) {
            for (int i = 0; i < count; i++) {
                int t = who[i];
                if (t < 0 || t >= sat.length || sat[t] != minutes[i]) {
                    return i;
                }
            }
            return NONE;
        }

        /** COULD BE: the matters for which all of these stayed just so. */
        int fitting(Bridge bridge) {
            int set = 0;
            for (int m = 0; m < bridge.matters; m++) {
                if (fits(bridge, m)) {
                    set |= 1 << m;
                }
            }
            return set;
        }

        private boolean fits(Bridge bridge, int m) {
            for (int i = 0; i < count; i++) {
                if (bridge.stayOf(who[i], m) != minutes[i]) {
                    return false;
                }
            }
            return true;
        }
    }

    /** ASK: by whose stay a set of matters is told apart best. */
    private static final class Asking {
        /** Who leaves the whole set alike parts nothing, so the set's own size is what must be beaten. */
        static int bestOf(Bridge bridge, int set) {
            int best = NONE;
            int least = Integer.bitCount(set);
            for (int t = 0; t < bridge.travellers; t++) {
                int part = greatestPart(bridge, t, set);
                if (part < least) {
                    least = part;
                    best = t;
                }
            }
            return best;
        }

        private static int greatestPart(Bridge bridge, int t, int set) {
            int greatest = 0;
            for (int m = 0; m < bridge.matters; m++) {
                if (holds(set, m)) {
                    greatest = Math.max(greatest, alike(bridge, t, set, bridge.stayOf(t, m)));
                }
            }
            return greatest;
        }

        private static int alike(Bridge bridge, int t, int set, int minutes) {
            int many = 0;
            for (int m = 0; m < bridge.matters; m++) {
                if (holds(set, m) && bridge.stayOf(t, m) == minutes) {
                    many++;
                }
            }
            return many;
        }
    }
}
