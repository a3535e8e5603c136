/**
 * A bridge whose toll is the sentence that one was about to say. The document
 * (../shared/DOC.md) tells the rules; words in capitals there are the names here.
 */
public final class BridgeSentences {
    public static final int NONE = -1, BAD = -2, STATE = -3, FULL = -4;
    public static final long NO = Long.MIN_VALUE;

    private static final int NOT_ANY = -5, FAULTS = -10, NOTHING = -11, CAST = -12, PLACE = -13, SIZE = -14;
    private static final int NO_URGE = -10001;

    private static final int SENTENCES = 12, SETS = 4096, MOST_WORTH = 20;
    private static final int MOST_PEOPLE = 6, MOST_V = 9, MOST_ROW = 9, ROW_PARTS = 4;
    private static final int MOST_BRIDGES = 6, MOST_TEXT = 100, MOST_SIGN = 127;
    private static final int MOST_DAYS = 60, LAST_DAY = 9999, MOST_BACK = 9999;
    private static final int MOST_SEEN = 5, MOST_PLAN = 10, MOST_BOOK = 8;
    private static final int TAPES = 6, MOST_ITEMS = 60, RAN_OUT = 100;
    private static final int BYTES = 0, SHORTS = 1, INTS = 2, LONGS = 3, BOOLEANS = 4;
    private static final int A_DAY = 0, GOES_BEYOND = 1, COMES_BACK = 2, IS_LET_GO = 3;
    private static final int UNTOLD = -2, AT_ODDS = -3;

    /** For each KIND the one above it. */
    private static final int[] ABOVE = {-1, 0, 0, 0, 1, 2, 3};

    private final World now = new World();
    /** What is asked is tried on this one, so that asking changes nothing. */
    private final World trial = new World();
    private final World kept = new World();
    private boolean isKept;

    /** It has THE TEXT, from which it is read; after a FAULT it is used again. */
    private Bridge next = new Bridge();
    private int bridges;

    private final Trace latest = new Trace();

    private final int[] tapeSort = {-1, -1, -1, -1, -1, -1};
    private final int[] tapeSize = new int[TAPES];
    private final long[][] tapeItems = new long[TAPES][MOST_ITEMS];

    public BridgeSentences() {
    }

    // ---- people, sentences, bridges

    public int one(int kind, int v, int has) {
        if (kind < 0 || kind >= ABOVE.length) {
            return NONE;
        }
        if (v < 0 || v > MOST_V || !isSet(has)) {
            return BAD;
        }
        if (now.count >= MOST_PEOPLE) {
            return FULL;
        }
        One p = made(kind, now.count);
        p.v = v;
        p.has = has;
        now.people[now.count] = p;
        now.count++;
        return p.number;
    }

    public int of(int person, int what) {
        One p = now.personAt(person);
        if (p == null) {
            return NONE;
        }
        switch (what) {
            case 0: return p.kind;
            case 1: return p.v;
            case 2: return p.has;
            case 3: return p.isBeyond ? 1 : 0;
            case 4: return p.back;
            case 5: return orNotAny(now.tipOf(p, p.has));
            case 6: return dearOf(p);
            case 7: return hadSets(p);
            case 8: return hadSets(p) == 0 ? NOT_ANY : leastHad(p);
            default: return NONE;
        }
    }

    public int urge(int person, int sentence) {
        One p = now.personAt(person);
        if (p == null || !isSentence(sentence)) {
            return NO_URGE;
        }
        return now.urgeFor(p, sentence, Integer.bitCount(p.has));
    }

    public int learn(int person, int sentences) {
        One p = now.personAt(person);
        if (p == null) {
            return NONE;
        }
        if (!isSet(sentences)) {
            return BAD;
        }
        int before = p.has;
        p.has = sentences;
        return before;
    }

    public int ford(int person, boolean isBeyond) {
        One p = now.personAt(person);
        if (p == null) {
            return NONE;
        }
        int before = p.isBeyond ? 1 : 0;
        p.isBeyond = isBeyond;
        return before;
    }

    public int worth(int sentence, int n) {
        if (!isSentence(sentence)) {
            return NONE;
        }
        if (!isWorth(n)) {
            return BAD;
        }
        int before = now.worths[sentence];
        now.worths[sentence] = n;
        return before;
    }

    public int row(int person, int part, int n) {
        One p = now.personAt(person);
        if (p == null || part < 0 || part >= ROW_PARTS) {
            return NONE;
        }
        if (n < 0 || n > MOST_ROW) {
            return BAD;
        }
        if (p instanceof Told teller) {
            int before = teller.more[part];
            teller.more[part] = n;
            return before;
        }
        return STATE;
    }

    public int feed(int sign) {
        if (sign < 0 || sign > MOST_SIGN) {
            return BAD;
        }
        if (next.length >= MOST_TEXT) {
            return FULL;
        }
        next.text[next.length] = (byte) sign;
        next.length++;
        return next.length;
    }

    public int bridge() {
        if (bridges >= MOST_BRIDGES) {
            return FULL;
        }
        int fault = next.faultOfText();
        if (fault >= 0) {
            next.length = 0;
            return FAULTS - fault;
        }
        now.held = next;
        next = new Bridge();
        bridges++;
        return bridges - 1;
    }

    public int told(int what) {
        switch (what) {
            case 0: return now.day;
            case 1: return now.freeNow();
            case 2: return now.takenSet;
            case 3: return now.heardSet;
            case 4: return now.beyondSet();
            default: break;
        }
        if (what >= 10 && what < 10 + SENTENCES) {
            return now.worths[what - 10];
        }
        if (what >= 30 && what < 30 + SENTENCES) {
            return comesOf(what - 30);
        }
        if (what >= 50 && what < 50 + SENTENCES) {
            return worthsOf(what - 50);
        }
        return NONE;
    }

    // ---- days

    public int pass(int n) {
        if (!areDays(n)) {
            return BAD;
        }
        if (now.day + n > LAST_DAY) {
            return STATE;
        }
        now.goDays(n, MOST_BACK);
        return now.day;
    }

    public int on(int n, int what) {
        One p = now.personAt(what - 10);
        if ((what < 0 || what > 2) && p == null) {
            return NONE;
        }
        if (!areDays(n)) {
            return BAD;
        }
        trial.becomeLike(now);
        trial.goDays(n, Integer.MAX_VALUE);
        switch (what) {
            case 0: return trial.takenSet;
            case 1: return trial.heardSet;
            case 2: return trial.beyondSet();
            default: break;
        }
        One then = trial.personAt(what - 10);
        return then == null ? NONE : then.has;
    }

    public int decoy(int person, int sentence) {
        One p = now.personAt(person);
        if (p == null || !isSentence(sentence)) {
            return NONE;
        }
        if ((p.has >> sentence & 1) == 0) {
            return NOT_ANY;
        }
        return decoyOf(p, sentence);
    }

    // ---- seen, odds

    public int see(int person, int sentence) {
        if (person == -1) {
            return now.seen.cleared();
        }
        if (now.personAt(person) == null || sentence != -1 && !isSentence(sentence)) {
            return NONE;
        }
        return now.seen.added(person, sentence);
    }

    public int can(int person, int what) {
        One p = now.personAt(person);
        if (p == null || what < 0 || what > 1) {
            return NONE;
        }
        int found = 0;
        int least = NOT_ANY;
        trial.becomeLike(now);
        for (int v = MOST_V; v >= 0; v--) {
            if (isSoWithV(person, v)) {
                found++;
                least = v;
            }
        }
        return what == 0 ? found : least;
    }

    public long odds(int person, int part) {
        One p = now.personAt(person);
        if (p == null || !isPart(part)) {
            return NO;
        }
        int before = now.tipOf(p, p.has);
        int others = 0;
        for (int s = 0; s < SENTENCES; s++) {
            int after = now.tipOf(p, p.has | 1 << s);
            if (after >= 0 && after != before) {
                others++;
            }
        }
        return inLowestTerms(others, SENTENCES, part);
    }

    public long mean(int n, int part) {
        if (!areDays(n) || !isPart(part)) {
            return NO;
        }
        trial.becomeLike(now);
        trial.goDays(n, Integer.MAX_VALUE);
        return inLowestTerms(trial.heardWorth(), Integer.bitCount(trial.heardSet), part);
    }

    // ---- plans, books

    public int plan(int what, int n) {
        if (what == -1) {
            return now.planned.cleared();
        }
        if (what < A_DAY || what > IS_LET_GO) {
            return NONE;
        }
        if ((what == GOES_BEYOND || what == COMES_BACK) && now.personAt(n) == null) {
            return NONE;
        }
        if (what == IS_LET_GO && !isSentence(n)) {
            return NONE;
        }
        return now.planned.added(what, n);
    }

    public int ends(int what) {
        if (what < 0 || what > 1) {
            return NONE;
        }
        trial.becomeLike(now);
        for (int i = 0; i < now.planned.size; i++) {
            goRow(now.planned.first[i], now.planned.second[i]);
        }
        return what == 0 ? trial.heardSet : trial.allBack();
    }

    public int book(int sentence, int worth) {
        if (sentence == -1) {
            return now.booked.cleared();
        }
        if (!isSentence(sentence)) {
            return NONE;
        }
        if (!isWorth(worth)) {
            return BAD;
        }
        return now.booked.added(sentence, worth);
    }

    public int looked() {
        for (int i = 0; i < now.booked.size; i++) {
            if (now.worths[now.booked.first[i]] != now.booked.second[i]) {
                return i;
            }
        }
        return NOT_ANY;
    }

    // ---- judging, the image, acts, tapes

    public int judge(int tape, int i) {
        if (!isTape(tape)) {
            return NONE;
        }
        if (tapeSort[tape] == -1) {
            return RAN_OUT;
        }
        if (tapeSort[tape] != LONGS) {
            return CAST;
        }
        if (i < 0) {
            return RAN_OUT;
        }
        for (int s = 0; s < SENTENCES; s++) {
            if (i >= tapeSize[tape] - s) {
                return RAN_OUT + s;
            }
            if (tapeItems[tape][i + s] != now.worths[s]) {
                return s;
            }
        }
        return NOT_ANY;
    }

    public int image() {
        kept.becomeLike(now);
        isKept = true;
        return now.count;
    }

    public int undo() {
        if (!isKept) {
            return STATE;
        }
        now.becomeLike(kept);
        return now.count;
    }

    public int act(int person, int act, int x) {
        latest.ran = 0;
        One p = now.personAt(person);
        if (p == null) {
            return 0;
        }
        switch (act) {
            case 0: return p.mutters(latest, x);
            case 1: return p.says(latest, x);
            case 2: return p.tells(latest, x);
            default: return 0;
        }
    }

    public int trace(int i) {
        if (i < 0 || i >= latest.ran || i >= latest.bodies.length) {
            return NONE;
        }
        return latest.bodies[i];
    }

    public int taken(int person, int k) {
        if (k < 0 || k >= ABOVE.length) {
            return BAD;
        }
        One p = now.personAt(person);
        if (p == null) {
            return NOTHING;
        }
        return isUnder(p.kind, k) ? p.kind : CAST;
    }

    public int count(int what) {
        switch (what) {
            case 0: return now.count;
            case 1: return bridges;
            case 2: return now.seen.size;
            case 3: return now.planned.size;
            case 4: return now.booked.size;
            case 5: return next.length;
            case 6: return latest.ran;
            default: return BAD;
        }
    }

    public int tape(int tape, int sort, int n) {
        if (!isTape(tape)) {
            return NONE;
        }
        if (sort < -1 || sort > BOOLEANS) {
            return BAD;
        }
        if (sort >= 0 && n > MOST_ITEMS) {
            return BAD;
        }
        if (sort >= 0 && n < 0) {
            return SIZE;
        }
        tapeSort[tape] = sort;
        tapeSize[tape] = sort >= 0 ? n : 0;
        for (int i = 0; i < tapeSize[tape]; i++) {
            tapeItems[tape][i] = 0;
        }
        return 1;
    }

    public int item(int tape, int i, long v) {
        if (!isTape(tape)) {
            return NONE;
        }
        if (tapeSort[tape] == -1) {
            return NOTHING;
        }
        if (i < 0 || i >= tapeSize[tape]) {
            return PLACE;
        }
        tapeItems[tape][i] = asItem(tapeSort[tape], v);
        return 1;
    }

    public long read(int tape, int i) {
        if (!isTape(tape) || i < 0 || i >= tapeSize[tape]) {
            return NO;
        }
        return tapeItems[tape][i];
    }

    public int shift(int tape, int i, int other, int j, int n) {
        if (!isTape(tape) || !isTape(other)) {
            return NONE;
        }
        if (tapeSort[tape] == -1 || tapeSort[other] == -1) {
            return NOTHING;
        }
        if (tapeSort[tape] != tapeSort[other]) {
            return CAST;
        }
        if (n < 0 || i < 0 || j < 0 || n > tapeSize[tape] - i || n > tapeSize[other] - j) {
            return PLACE;
        }
        System.arraycopy(tapeItems[tape], i, tapeItems[other], j, n);
        return n;
    }

    // ---- what a number may be

    private static boolean isSentence(int s) {
        return s >= 0 && s < SENTENCES;
    }

    private static boolean isSet(int bits) {
        return bits >= 0 && bits < SETS;
    }

    private static boolean isWorth(int n) {
        return n >= 0 && n <= MOST_WORTH;
    }

    private static boolean areDays(int n) {
        return n >= 0 && n <= MOST_DAYS;
    }

    private static boolean isPart(int part) {
        return part == 0 || part == 1;
    }

    private static boolean isTape(int tape) {
        return tape >= 0 && tape < TAPES;
    }

    private static int orNotAny(int sentence) {
        return sentence < 0 ? NOT_ANY : sentence;
    }

    private static boolean isUnder(int kind, int k) {
        int at = kind;
        for (int i = 0; i < ABOVE.length && at >= 0; i++) {
            if (at == k) {
                return true;
            }
            at = ABOVE[at];
        }
        return false;
    }

    private static long asItem(int sort, long v) {
        switch (sort) {
            case BYTES: return (byte) v;
            case SHORTS: return (short) v;
            case INTS: return (int) v;
            case BOOLEANS: return v != 0 ? 1 : 0;
            default: return v;
        }
    }

    private static long inLowestTerms(int above, int below, int part) {
        if (below < 1) {
            return NO;
        }
        int most = 1;
        for (int d = 2; d <= below; d++) {
            if (above % d == 0 && below % d == 0) {
                most = d;
            }
        }
        return part == 0 ? above / most : below / most;
    }

    private static int choices(int of, int n) {
        if (n < 0 || n > of) {
            return 0;
        }
        int ways = 1;
        for (int i = 0; i < n; i++) {
            ways = ways * (of - i) / (i + 1);
        }
        return ways;
    }

    private static One made(int kind, int number) {
        switch (kind) {
            case 1: return new Poet(1, number);
            case 2: return new Clerk(2, number);
            case 3: return new Lover(3, number);
            case 4: return new Orator(4, number);
            case 5: return new Child(5, number);
            case 6: return new Told(6, number);
            default: return new One(0, number);
        }
    }

    // ---- what is asked

    /** By the words its TIP may be lost by a little less and be back by more, so the greatest is tried first. */
    private int dearOf(One p) {
        int tip = now.tipOf(p, p.has);
        if (tip < 0) {
            return NOT_ANY;
        }
        trial.becomeLike(now);
        for (int less = MOST_WORTH; less > 0; less--) {
            trial.worths[tip] = Math.max(now.worths[tip] - less, 0);
            if (trial.tipOf(p, p.has) == tip) {
                return less;
            }
        }
        return 0;
    }

    private int hadSets(One p) {
        int tip = now.seenOf(p.number);
        if (tip == UNTOLD) {
            return SETS;
        }
        if (tip == AT_ODDS) {
            return 0;
        }
        return tip < 0 ? now.setsWithoutTip(p) : now.setsWithTip(p, tip);
    }

    /** If there is any: the least set with a TIP has that alone (whatever else it had would only press less); without one it is empty. */
    private int leastHad(One p) {
        int tip = now.seenOf(p.number);
        return tip < 0 ? 0 : 1 << tip;
    }

    /**
     * No more than one SENTENCE is ever needed: if more of them bring another TIP, that one alone does,
     * since what the others do is to press it less.
     */
    private int decoyOf(One p, int sentence) {
        if (isOther(now.tipOf(p, p.has), sentence)) {
            return 0;
        }
        for (int s = 0; s < SENTENCES; s++) {
            if ((p.has >> s & 1) == 0 && isOther(now.tipOf(p, p.has | 1 << s), sentence)) {
                return 1 << s;
            }
        }
        return NOT_ANY;
    }

    private static boolean isOther(int tip, int sentence) {
        return tip >= 0 && tip != sentence;
    }

    private int comesOf(int sentence) {
        trial.becomeLike(now);
        for (int n = 0; n <= MOST_DAYS; n++) {
            if ((trial.heardSet >> sentence & 1) == 1) {
                return n;
            }
            trial.goDay(Integer.MAX_VALUE);
        }
        return NOT_ANY;
    }

    private int worthsOf(int sentence) {
        int found = 0;
        trial.becomeLike(now);
        for (int n = 0; n <= MOST_WORTH; n++) {
            trial.worths[sentence] = n;
            if (trial.isSeenSo()) {
                found |= 1 << n;
            }
        }
        return found;
    }

    private boolean isSoWithV(int person, int v) {
        One p = trial.personAt(person);
        if (p == null) {
            return false;
        }
        p.v = v;
        int tip = trial.seenOf(person);
        return tip == UNTOLD || tip == trial.tipOf(p, p.has);
    }

    private void goRow(int what, int n) {
        One p = trial.personAt(n);
        if (what == A_DAY) {
            trial.goDay(Integer.MAX_VALUE);
        } else if (what == IS_LET_GO) {
            trial.letGo(1 << n & trial.takenSet);
        } else if (p != null) {
            p.isBeyond = what == GOES_BEYOND;
        }
    }

    /** Rows told by hand, of two numbers each. */
    private static final class Rows {
        final int[] first;
        final int[] second;
        int size;

        Rows(int most) {
            int length = Math.max(most, 0);
            first = new int[length];
            second = new int[length];
        }

        int cleared() {
            size = 0;
            return 0;
        }

        int added(int a, int b) {
            if (size >= first.length) {
                return FULL;
            }
            first[size] = a;
            second[size] = b;
            size++;
            return size;
        }

        void becomeLike(Rows other) {
            size = 0;
            for (int i = 0; i < other.size; i++) {
                added(other.first[i], other.second[i]);
            }
        }
    }

    /** All that THE IMAGE holds. */
    private static final class World {
        final int[] worths = {10, 10, 10, 10, 10, 10, 10, 10, 10, 10, 10, 10};
        final One[] people = new One[MOST_PEOPLE];
        int count;
        int takenSet;
        int heardSet;
        int day;
        final Rows seen = new Rows(MOST_SEEN);
        final Rows planned = new Rows(MOST_PLAN);
        final Rows booked = new Rows(MOST_BOOK);
        /** The BRIDGE that holds; null: there is none. */
        Bridge held;
        /** What the letters p, k, v, s, w, d stand for while a SUM is made. */
        final int[] facts = new int[6];

        void becomeLike(World other) {
            System.arraycopy(other.worths, 0, worths, 0, SENTENCES);
            for (int i = 0; i < other.count; i++) {
                copyOne(other.people[i], i);
            }
            count = other.count;
            takenSet = other.takenSet;
            heardSet = other.heardSet;
            day = other.day;
            seen.becomeLike(other.seen);
            planned.becomeLike(other.planned);
            booked.becomeLike(other.booked);
            held = other.held;
        }

        private void copyOne(One theirs, int i) {
            if (theirs == null) {
                return;
            }
            if (people[i] == null || people[i].kind != theirs.kind) {
                people[i] = made(theirs.kind, i);
            }
            people[i].becomeLike(theirs);
        }

        One personAt(int number) {
            return number >= 0 && number < count ? people[number] : null;
        }

        int freeNow() {
            return held == null ? 0 : held.free;
        }

        int beyondSet() {
            int bits = 0;
            for (int i = 0; i < count; i++) {
                if (people[i] != null && people[i].isBeyond) {
                    bits |= 1 << i;
                }
            }
            return bits;
        }

        int allBack() {
            int sum = 0;
            for (int i = 0; i < count; i++) {
                if (people[i] != null) {
                    sum += people[i].back;
                }
            }
            return sum;
        }

        int heardWorth() {
            int sum = 0;
            for (int s = 0; s < SENTENCES; s++) {
                if ((heardSet >> s & 1) == 1) {
                    sum += worths[s];
                }
            }
            return sum;
        }

        private int sumOf(One p, int s) {
            if (held == null) {
                return worths[s];
            }
            facts[0] = p.number;
            facts[1] = p.kind;
            facts[2] = p.v;
            facts[3] = s;
            facts[4] = worths[s];
            facts[5] = day % 10;
            return worths[s] + held.pressing(facts);
        }

        int urgeFor(One p, int s, int size) {
            return p.urgeBy(s, sumOf(p, s), size);
        }

        /** The TIP of one, if this set were what it HAS; NONE: there is none. */
        int tipOf(One p, int has) {
            int size = Integer.bitCount(has);
            int tip = NONE;
            int most = 0;
            for (int s = 0; s < SENTENCES; s++) {
                if ((has >> s & 1) == 1) {
                    int urge = p.urgeBy(s, sumOf(p, s), size);
                    if (urge > most) {
                        most = urge;
                        tip = s;
                    }
                }
            }
            return tip;
        }

        void goDays(int n, int mostBack) {
            for (int i = 0; i < n; i++) {
                goDay(mostBack);
            }
        }

        void goDay(int mostBack) {
            for (int i = 0; i < count; i++) {
                if (people[i] != null) {
                    goOne(people[i], mostBack);
                }
            }
            int free = freeNow();
            if (free > 0 && day % free == 0) {
                letGo(takenSet & -takenSet);
            }
            day++;
        }

        private void goOne(One p, int mostBack) {
            int tip = tipOf(p, p.has);
            if (tip < 0) {
                if (!p.isBeyond && p.back < mostBack) {
                    p.back++;
                }
                return;
            }
            int bit = 1 << tip;
            p.has &= ~bit;
            if (p.isBeyond) {
                heardSet |= bit;
            } else {
                takenSet |= bit;
                p.isBeyond = true;
            }
        }

        void letGo(int bits) {
            heardSet |= bits;
            takenSet &= ~bits;
        }

        /** What SEEN tells of one: its TIP or NONE, UNTOLD without a row, AT_ODDS if rows are unlike. */
        int seenOf(int person) {
            int tip = UNTOLD;
            for (int i = 0; i < seen.size; i++) {
                if (seen.first[i] == person) {
                    if (tip != UNTOLD && tip != seen.second[i]) {
                        return AT_ODDS;
                    }
                    tip = seen.second[i];
                }
            }
            return tip;
        }

        boolean isSeenSo() {
            for (int i = 0; i < seen.size; i++) {
                One p = personAt(seen.first[i]);
                if (p == null || tipOf(p, p.has) != seen.second[i]) {
                    return false;
                }
            }
            return true;
        }

        /** Of what one HAS an URGE asks only how many they are; so the sets are counted by size. */
        int setsWithTip(One p, int tip) {
            int sets = 0;
            for (int size = 1; size <= SENTENCES; size++) {
                sets += choices(beatenBy(p, tip, size), size - 1);
            }
            return sets;
        }

        int setsWithoutTip(One p) {
            int sets = 0;
            for (int size = 0; size <= SENTENCES; size++) {
                int unurged = 0;
                for (int s = 0; s < SENTENCES; s++) {
                    if (urgeFor(p, s, size) <= 0) {
                        unurged++;
                    }
                }
                sets += choices(unurged, size);
            }
            return sets;
        }

        /** Beside how many others a SENTENCE is the TIP in a set of a size; -1: it can be none there. */
        private int beatenBy(One p, int tip, int size) {
            int most = urgeFor(p, tip, size);
            if (most <= 0) {
                return -1;
            }
            int beaten = 0;
            for (int s = 0; s < SENTENCES; s++) {
                int urge = urgeFor(p, s, size);
                if (urge < most || urge == most && s > tip) {
                    beaten++;
                }
            }
            return beaten;
        }
    }

    /** A BRIDGE, and the reading of it; each E is kept as signs to work off from the left, tests ahead of what joins them. */
    private static final class Bridge {
        private static final int NOT = -1, AND = -2, OR = -3;
        private static final int MOST_CLAUSES = 10, MOST_WITHIN = 4;
        private static final String LETTERS = "pkvswd", SIGNS = "<=>";

        /** Behind THE TEXT stands a 0, which no BRIDGE has: so the reading never goes beyond its end. */
        final byte[] text = new byte[MOST_TEXT + 1];
        int length;
        private int at;

        private final int[] code = new int[MOST_TEXT];
        private int codeSize;
        private final int[] weights = new int[MOST_CLAUSES];
        private final int[] codeEnds = new int[MOST_CLAUSES];
        private int clauses;
        int free;

        /** Reads THE TEXT: its FAULT, or -1 if it has none. */
        int faultOfText() {
            text[length] = 0;
            at = 0;
            codeSize = 0;
            clauses = 0;
            free = 0;
            boolean isRead = isClause();
            for (int i = 1; i < MOST_CLAUSES && isRead && isNext(';'); i++) {
                isRead = isClause();
            }
            return isRead && at == length ? -1 : at;
        }

        private boolean isClause() {
            int first = text[at];
            String word = first == 'p' ? "press " : first == 'h' ? "hold " : "free ";
            if (!isWord(word)) {
                return false;
            }
            int n = number();
            if (n < 0) {
                return false;
            }
            if (first == 'f') {
                free = n;
                return endClause(0);
            }
            return isNext(' ') && isEither(0) && endClause(first == 'p' ? n : -n);
        }

        private boolean endClause(int weight) {
            if (clauses >= MOST_CLAUSES) {
                return false;
            }
            weights[clauses] = weight;
            codeEnds[clauses] = codeSize;
            clauses++;
            return true;
        }

        private boolean isEither(int within) {
            boolean isRead = isBoth(within);
            for (int i = 0; i < length && isRead && isNext('|'); i++) {
                isRead = isBoth(within) && isKept(OR);
            }
            return isRead;
        }

        private boolean isBoth(int within) {
            boolean isRead = isFactor(within);
            for (int i = 0; i < length && isRead && isNext('&'); i++) {
                isRead = isFactor(within) && isKept(AND);
            }
            return isRead;
        }

        private boolean isFactor(int within) {
            if (text[at] != '!' && text[at] != '(') {
                return isTest();
            }
            if (within >= MOST_WITHIN) {
                return false;
            }
            if (isNext('!')) {
                return isFactor(within + 1) && isKept(NOT);
            }
            at++;
            return isEither(within + 1) && isNext(')');
        }

        private boolean isTest() {
            int letter = LETTERS.indexOf((char) text[at]);
            if (letter < 0) {
                return false;
            }
            at++;
            int way = SIGNS.indexOf((char) text[at]);
            if (way < 0) {
                return false;
            }
            at++;
            int n = number();
            return n >= 0 && isKept((letter * 3 + way) * 100 + n);
        }

        private boolean isKept(int one) {
            if (codeSize >= code.length) {
                return false;
            }
            code[codeSize] = one;
            codeSize++;
            return true;
        }

        private boolean isNext(char c) {
            if (text[at] != c) {
                return false;
            }
            at++;
            return true;
        }

        private boolean isWord(String word) {
            for (int i = 0; i < word.length(); i++) {
                if (!isNext(word.charAt(i))) {
                    return false;
                }
            }
            return true;
        }

        /** One digit or two; -1: there is none. */
        private int number() {
            int n = 0;
            int digits = 0;
            while (digits < 2 && text[at] >= '0' && text[at] <= '9') {
                n = n * 10 + text[at] - '0';
                at++;
                digits++;
            }
            return digits == 0 ? -1 : n;
        }

        /** The n of all press that hold, less those of all hold. */
        int pressing(int[] facts) {
            int sum = 0;
            int from = 0;
            for (int i = 0; i < clauses; i++) {
                if (weights[i] != 0 && holds(from, codeEnds[i], facts)) {
                    sum += weights[i];
                }
                from = codeEnds[i];
            }
            return sum;
        }

        /** The answers that wait are the bits of one number, the newest lowest: ten or so at most, by MOST_WITHIN. */
        private boolean holds(int from, int to, int[] facts) {
            int bits = 0;
            for (int i = from; i < to; i++) {
                int one = code[i];
                if (one == NOT) {
                    bits ^= 1;
                } else if (one == AND) {
                    bits = (bits & 1) == 1 ? bits >> 1 : bits >> 1 & ~1;
                } else if (one == OR) {
                    bits = bits >> 1 | bits & 1;
                } else {
                    int left = facts[one / 300];
                    int n = one % 100;
                    int way = left < n ? 0 : left == n ? 1 : 2;
                    bits = bits << 1 | (way == one / 100 % 3 ? 1 : 0);
                }
            }
            return (bits & 1) == 1;
        }
    }

    /** The bodies that ran in the latest act. */
    private static final class Trace {
        final int[] bodies = new int[20];
        int ran;

        void began(int body) {
            if (ran < bodies.length) {
                bodies[ran] = body;
            }
            ran++;
        }
    }

    private static class One {
        final int kind;
        final int number;
        int v;
        int has;
        boolean isBeyond;
        int back;

        One(int kind, int number) {
            this.kind = kind;
            this.number = number;
        }

        void becomeLike(One other) {
            v = other.v;
            has = other.has;
            isBeyond = other.isBeyond;
            back = other.back;
        }

        /** URGE for a SENTENCE by its SUM, if one has as many SENTENCES as size. */
        int urgeBy(int sentence, int sum, int size) {
            return sum;
        }

        int mutters(Trace trace, int x) {
            trace.began(10);
            return x + number;
        }

        int says(Trace trace, int x) {
            trace.began(11);
            return mutters(trace, x) - v;
        }

        int tells(Trace trace, int x) {
            trace.began(12);
            return says(trace, x) * 2;
        }
    }

    private static class Poet extends One {
        Poet(int kind, int number) {
            super(kind, number);
        }

        int urgeBy(int sentence, int sum, int size) {
            return isBeyond ? sum + v : sum;
        }

        int says(Trace trace, int x) {
            trace.began(20);
            return super.says(trace, x) ^ 6;
        }
    }

    private static class Clerk extends One {
        Clerk(int kind, int number) {
            super(kind, number);
        }

        int urgeBy(int sentence, int sum, int size) {
            return sum / 2;
        }

        int mutters(Trace trace, int x) {
            trace.began(30);
            return super.mutters(trace, x * 3);
        }
    }

    private static class Lover extends One {
        Lover(int kind, int number) {
            super(kind, number);
        }

        int urgeBy(int sentence, int sum, int size) {
            return sum - size;
        }

        int tells(Trace trace, int x) {
            trace.began(40);
            return super.tells(trace, x) + says(trace, 1);
        }
    }

    private static final class Orator extends Poet {
        Orator(int kind, int number) {
            super(kind, number);
        }

        int urgeBy(int sentence, int sum, int size) {
            int urge = super.urgeBy(sentence, sum, size);
            return sentence % 2 == 0 ? urge * 2 : urge;
        }

        int mutters(Trace trace, int x) {
            trace.began(50);
            return -super.mutters(trace, x);
        }

        int says(Trace trace, int x) {
            trace.began(51);
            return super.says(trace, x + 1);
        }
    }

    private static final class Child extends Clerk {
        Child(int kind, int number) {
            super(kind, number);
        }

        int urgeBy(int sentence, int sum, int size) {
            return super.urgeBy(sentence, sum, size) - Math.min(back, 9);
        }

        int tells(Trace trace, int x) {
            trace.began(60);
            return super.tells(trace, x - number);
        }
    }

    private static final class Told extends Lover {
        final int[] more = new int[ROW_PARTS];

        Told(int kind, int number) {
            super(kind, number);
        }

        void becomeLike(One other) {
            super.becomeLike(other);
            if (other instanceof Told teller) {
                System.arraycopy(teller.more, 0, more, 0, ROW_PARTS);
            }
        }

        int urgeBy(int sentence, int sum, int size) {
            return super.urgeBy(sentence, sum, size) + more[sentence % ROW_PARTS];
        }

        int says(Trace trace, int x) {
            trace.began(70);
            return super.says(trace, x) + super.mutters(trace, 2);
        }

        int mutters(Trace trace, int x) {
            trace.began(71);
            return super.mutters(trace, x) ^ v;
        }
    }
}
