import java.util.Arrays;

/**
 * A FAMILY in which who speaks of it first has won, by the document ../shared/DOC.md: ROWS, TEXTS,
 * a FAMILY read from a TEXT, its DEEDS, and questions about these.
 */
public final class StuckDoor {
    public static final int BAD = -1, FULL = -2, FINDING = -3, STATE = -4, SPENT = -6, NONE = -9;

    private static final int NOTHING = 1, BEYOND = 2, UNLIKE = 3, NOUGHT = 4, SIZE = 5;

    private static final int HINT = 1, GRACE = 2, JOKE = 3, WILL = 4, SPEECH = 5, KINDS = 6;
    /** The letter of each KIND. */
    private static final int[] LETTERS = {'s', 'h', 'g', 'j', 'w', 'p'};
    /** The KIND that each KIND is one of. */
    private static final int[] PARENTS = {0, 0, 0, HINT, GRACE, HINT};

    private static final int ROWS = 6, PLACES = 40, TEXTS = 4, BYTES = 60, KEPT = 3;
    private static final int MOST_PEOPLE = 4, MOST_SAYINGS = 6, MOST_DEEDS = 40, MOST_TURNS = 5;
    private static final int ALL_TOPICS = 7, TOPICS = 3, ROOMS = 12, BLANK = 32;
    private static final int MOST_PAIRS = 10, MOST_NAMED = 12;
    private static final int MOST_DAYS = 12, TWELVE = 12, MOST_LOTS = 20;
    private static final long LOT_TIMES = 48271L, LOT_MODULUS = 2147483647L;
    private static final int MISSING = -1, DAY = -1, SILENT = -1;

    private final Rows ints = new Rows(ROWS, PLACES);
    private final Rows texts = new Rows(TEXTS, BYTES);
    private final Rows kept = new Rows(KEPT, MOST_DEEDS);
    private final Family family = new Family();
    private final Reader reader = new Reader();
    private final Turns turns = new Turns();
    private final Chances chances = new Chances();
    private final int[] found = new int[SIZE + 1];
    private int latest = 0;
    private int askedLast = 0;
    private long upperLast = 0;
    private long lowerLast = 1;

    public StuckDoor() {
    }

    // ---- 1 rows, texts, families

    public int row(int r, int n) {
        if (!ints.isNumber(r) || n > PLACES) {
            return BAD;
        }
        if (n < 0) {
            return refuse(SIZE);
        }
        ints.make(r, n, 0);
        return n;
    }

    public int lay(int r, int i, int v) {
        int refusal = refusalOfPlace(ints, r, i);
        if (refusal != 0) {
            return refusal;
        }
        askedLast = ints.places[r][i];
        ints.places[r][i] = v;
        return 1;
    }

    public int at(int r, int i) {
        int refusal = refusalOfPlace(ints, r, i);
        if (refusal != 0) {
            return refusal;
        }
        askedLast = ints.places[r][i];
        return 1;
    }

    public int tear(int r) {
        int refusal = refusalOfRow(ints, r);
        if (refusal != 0) {
            return refusal;
        }
        ints.sizes[r] = MISSING;
        return 1;
    }

    public int copy(int r, int i, int to, int j, int n) {
        if (!ints.isNumber(r) || !ints.isNumber(to)) {
            return BAD;
        }
        if (n < 0) {
            return refuse(SIZE);
        }
        if (!ints.isThere(r) || !ints.isThere(to)) {
            return refuse(NOTHING);
        }
        if (!ints.hasPlaces(r, i, n) || !ints.hasPlaces(to, j, n)) {
            return refuse(BEYOND);
        }
        System.arraycopy(ints.places[r], i, ints.places[to], j, n);
        return 1;
    }

    public int mean(int r) {
        int refusal = refusalOfRow(ints, r);
        if (refusal != 0) {
            return refusal;
        }
        int n = ints.sizes[r];
        if (n == 0) {
            return refuse(NOUGHT);
        }
        long sum = 0;
        for (int i = 0; i < n; i++) {
            sum += ints.places[r][i];
        }
        askedLast = (int) (sum / n);
        return 1;
    }

    public int text(int t, int n) {
        if (!texts.isNumber(t) || n > BYTES) {
            return BAD;
        }
        if (n < 0) {
            return refuse(SIZE);
        }
        texts.make(t, n, BLANK);
        return n;
    }

    public int put(int t, int i, int v) {
        int refusal = refusalOfPlace(texts, t, i);
        if (refusal != 0) {
            return refusal;
        }
        int was = texts.places[t][i];
        texts.places[t][i] = (byte) v;
        return was + 1000;
    }

    public int fault(int t) {
        int refusal = refusalOfRow(texts, t);
        if (refusal != 0) {
            return refusal;
        }
        return reader.faultOf(texts.places[t], texts.sizes[t]);
    }

    public int family(int t) {
        int refusal = refusalOfRow(texts, t);
        if (refusal != 0) {
            return refusal;
        }
        if (reader.faultOf(texts.places[t], texts.sizes[t]) != NONE) {
            return STATE;
        }
        family.become(reader.draft);
        for (int k = 0; k < KEPT; k++) {
            kept.sizes[k] = MISSING;
        }
        return family.sayings;
    }

    public int saying(int i, int what) {
        if (!family.hasSaying(i) || what < 0 || what > 4) {
            return BAD;
        }
        askedLast = family.aspect(i, what);
        return 1;
    }

    public int mark(int i, int kind) {
        if (!family.hasSaying(i) || kind < HINT || kind > SPEECH) {
            return BAD;
        }
        if (!family.isOfKind(i, kind)) {
            return refuse(UNLIKE);
        }
        switch (kind) {
            case HINT:
                return family.said[i];
            case GRACE:
                return family.told[i] - family.told[i] / 2;
            case JOKE:
                return Math.max(0, 3 - family.told[i] - family.said[i]);
            case WILL:
                return family.openTopics();
            default:
                return Integer.bitCount(family.whoWouldBeOver(i));
        }
    }

    public int bears(int x) {
        return family.hasPerson(x) ? family.bearing[x] : BAD;
    }

    // ---- 2 deeds

    public int say(int x, int i) {
        if (!family.hasPerson(x) || !family.hasSaying(i)) {
            return BAD;
        }
        if (family.isAnyOver()) {
            return STATE;
        }
        if (family.deeds >= MOST_DEEDS) {
            return FULL;
        }
        family.record(Family.deedOf(x, i));
        return family.strain;
    }

    public int day() {
        if (family.isEmpty()) {
            return STATE;
        }
        if (family.deeds >= MOST_DEEDS) {
            return FULL;
        }
        family.record(DAY);
        return family.strain;
    }

    public int undo(int n) {
        if (n < 0 || n > family.deeds) {
            return BAD;
        }
        int undone = family.deeds - n;
        family.goBackTo(n);
        return undone;
    }

    public int keep(int k) {
        if (!kept.isNumber(k)) {
            return BAD;
        }
        if (family.isEmpty()) {
            return STATE;
        }
        System.arraycopy(family.deed, 0, kept.places[k], 0, family.deeds);
        kept.sizes[k] = family.deeds;
        return family.deeds;
    }

    public int on(int k) {
        int refusal = refusalOfRow(kept, k);
        if (refusal != 0) {
            return refusal;
        }
        // family() lets kept ones go, so PEOPLE and SAYINGS are the same: its DEEDS alone tell all
        System.arraycopy(kept.places[k], 0, family.deed, 0, kept.sizes[k]);
        family.goBackTo(kept.sizes[k]);
        return family.deeds;
    }

    // ---- 3 who can say what (aside)

    public int can(int x) {
        return family.hasPerson(x) ? family.whatCanBeSaid(x) : BAD;
    }

    public int over(int i) {
        return family.hasSaying(i) ? family.whoWouldBeOver(i) : BAD;
    }

    public int talk(int r) {
        if (!ints.isNumber(r)) {
            return BAD;
        }
        if (family.isAnyOver() || family.isEmpty()) {
            return STATE;
        }
        if (!ints.isThere(r)) {
            return refuse(NOTHING);
        }
        int n = ints.sizes[r];
        if (n % 2 != 0 || n > 2 * MOST_PAIRS) {
            return refuse(SIZE);
        }
        int[] pairs = ints.places[r];
        for (int i = 0; i + 1 < n; i += 2) {
            if (!family.hasPerson(pairs[i]) || !family.hasSaying(pairs[i + 1])) {
                return refuse(UNLIKE);
            }
        }
        int said = 0;
        for (int i = 0; i + 1 < n && !family.isAnyOver(); i += 2) {
            family.utter(pairs[i], pairs[i + 1]);
            said++;
        }
        askedLast = family.strain;
        // it was only imagined: the true DEEDS tell how things stand
        family.goBackTo(family.deeds);
        return said;
    }

    public int waits(int x, int i) {
        if (!family.hasPerson(x) || !family.hasSaying(i)) {
            return BAD;
        }
        if (family.isAnyOver()) {
            return STATE;
        }
        int spare = family.bearing[x] - family.nearNow(i);
        return spare < 0 ? NONE : Math.max(0, family.strain - spare);
    }

    // ---- 4 settling (TURNS from one on)

    public int settle(int x, int r) {
        if (!family.hasPerson(x) || !ints.isNumber(r)) {
            return BAD;
        }
        if (family.isAnyOver() || family.isEmpty()) {
            return STATE;
        }
        for (int n = 0; n <= MOST_TURNS; n++) {
            if (turns.findFirst(family, x, n)) {
                ints.make(r, n, 0);
                for (int i = 0; i < n; i++) {
                    ints.places[r][i] = turns.trial[i] == SILENT ? NONE : turns.trial[i];
                }
                return n;
            }
        }
        return NONE;
    }

    public int least(int x, int n) {
        int refusal = refusalOfTurns(x, n);
        if (refusal != 0) {
            return refusal;
        }
        turns.tryAll(family, x, n);
        return turns.leastStrain;
    }

    public int rows(int x, int n) {
        int refusal = refusalOfTurns(x, n);
        if (refusal != 0) {
            return refusal;
        }
        turns.tryAll(family, x, n);
        askedLast = turns.settleable;
        tellShare(turns.number, 1);
        return 1;
    }

    private int refusalOfTurns(int x, int n) {
        if (!family.hasPerson(x) || n < 0 || n > MOST_TURNS) {
            return BAD;
        }
        return family.isAnyOver() || family.isEmpty() ? STATE : 0;
    }

    // ---- 5 the house

    public int stuck() {
        return family.stuckRooms;
    }

    public int way(int a, int b) {
        return House.hasRooms(a, b) ? House.steps(a, b, family.stuckRooms) : BAD;
    }

    public int cuts(int a, int b) {
        return House.hasRooms(a, b) ? House.onEachWay(a, b, family.stuckRooms) : BAD;
    }

    public int round(int a, int b) {
        if (!House.hasRooms(a, b)) {
            return BAD;
        }
        int now = House.steps(a, b, family.stuckRooms);
        return now == NONE ? NONE : now - House.steps(a, b, 0);
    }

    // ---- 6 what it is

    public int never(int r) {
        int refusal = refusalOfNamed(r);
        return refusal != 0 ? refusal : ALL_TOPICS & ~topicsOfNamed(r);
    }

    public int next(int r) {
        if (!ints.isNumber(r)) {
            return BAD;
        }
        if (family.isEmpty()) {
            return STATE;
        }
        int refusal = refusalOfNamed(r);
        if (refusal != 0) {
            return refusal;
        }
        int missing = ALL_TOPICS & ~topicsOfNamed(r);
        int best = 0;
        int most = -1;
        for (int i = 0; i < family.sayings; i++) {
            int many = Integer.bitCount(family.topics[i] & missing);
            if (many > most || many == most && family.nearNow(i) < family.nearNow(best)) {
                best = i;
                most = many;
            }
        }
        askedLast = most;
        return best;
    }

    /** What stands against a ROW as a ROW of SAYINGS; 0: nothing. */
    private int refusalOfNamed(int r) {
        int refusal = refusalOfRow(ints, r);
        if (refusal != 0) {
            return refusal;
        }
        if (ints.sizes[r] > MOST_NAMED) {
            return refuse(SIZE);
        }
        for (int i = 0; i < ints.sizes[r]; i++) {
            if (!family.hasSaying(ints.places[r][i])) {
                return refuse(UNLIKE);
            }
        }
        return 0;
    }

    private int topicsOfNamed(int r) {
        int all = 0;
        for (int i = 0; i < ints.sizes[r]; i++) {
            all |= family.topics[ints.places[r][i]];
        }
        return all;
    }

    public int kinds(int i, int near, int n, int open) {
        if (!family.hasSaying(i) || near < 0 || near > 99) {
            return BAD;
        }
        if (n < 0 || n > 9 || open < 0 || open > TOPICS) {
            return BAD;
        }
        int fitting = 0;
        for (int kind = 0; kind < KINDS; kind++) {
            if (Family.nearOf(kind, family.told[i], n, open) == near) {
                fitting |= 1 << kind;
            }
        }
        return fitting;
    }

    // ---- 7 by turns

    public int duel(int x, int y) {
        int refusal = refusalOfDuel(x, y);
        if (refusal != 0) {
            return refusal;
        }
        int worth = Duel.worth(family, x, y, 0, 0);
        if (worth == Duel.NOBODY) {
            return NONE;
        }
        return worth == Duel.OTHER ? 1 : 0;
    }

    public int opens(int x, int y) {
        int refusal = refusalOfDuel(x, y);
        return refusal != 0 ? refusal : Duel.firstBest(family, x, y);
    }

    private int refusalOfDuel(int x, int y) {
        if (!family.hasPerson(x) || !family.hasPerson(y) || x == y) {
            return BAD;
        }
        return family.isAnyOver() || family.isEmpty() ? STATE : 0;
    }

    // ---- 8 chances, lots

    public int mid(int n, int p) {
        if (!Chances.fit(n, p)) {
            return BAD;
        }
        if (family.isEmpty()) {
            return STATE;
        }
        chances.spread(n, p);
        tellShare(chances.strainSum(n, family.strain), chances.total);
        return 1;
    }

    public int odds(int x, int i, int n, int p) {
        if (!family.hasPerson(x) || !family.hasSaying(i) || !Chances.fit(n, p)) {
            return BAD;
        }
        if (family.isAnyOver() || family.isEmpty()) {
            return STATE;
        }
        chances.spread(n, p);
        int spare = family.bearing[x] - family.nearNow(i);
        tellShare(chances.atMost(n, family.strain, spare), chances.total);
        return 1;
    }

    public int lots(int n, int seed) {
        if (n < 1 || n > MOST_LOTS || seed < 1 || seed >= LOT_MODULUS) {
            return BAD;
        }
        if (family.isEmpty()) {
            return STATE;
        }
        if (family.deeds + n > MOST_DEEDS) {
            return FULL;
        }
        long lot = seed;
        for (int i = 0; i < n; i++) {
            lot = lot * LOT_TIMES % LOT_MODULUS;
            family.record(family.deedByLot(lot));
        }
        return family.strain;
    }

    // ---- 9 what is told

    public int asked() {
        return askedLast;
    }

    public long upper() {
        return upperLast;
    }

    public long lower() {
        return lowerLast;
    }

    public int count(int what) {
        switch (what) {
            case 0:
                return family.sayings;
            case 1:
                return family.people;
            case 2:
                return family.daysGone();
            case 3:
                return family.deeds;
            case 4:
                return family.strain;
            case 5:
                return family.settled;
            case 6:
                return family.whoIsOver;
            case 7:
                return family.howManyOfKind(HINT);
            case 8:
                return ints.howMany();
            case 9:
                return texts.howMany();
            case 10:
                return kept.howMany();
            default:
                return BAD;
        }
    }

    public int finding() {
        return latest;
    }

    public int findings(int f) {
        return f < NOTHING || f > SIZE ? BAD : found[f];
    }

    public long digest() {
        long h = 17;
        for (int what = 0; what <= 10; what++) {
            h = 31 * h + count(what);
        }
        for (int x = 0; x < family.people; x++) {
            h = 31 * h + family.bearing[x];
        }
        for (int i = 0; i < family.sayings; i++) {
            for (int what = 0; what <= 4; what++) {
                h = 31 * h + family.aspect(i, what);
            }
        }
        h = 31 * h + family.stuckRooms;
        for (int k = 0; k < KEPT; k++) {
            h = 31 * h + kept.sizes[k];
        }
        return texts.mixInto(ints.mixInto(h));
    }

    /** A FINDING (1 .. 5) is answered. */
    private int refuse(int f) {
        latest = f;
        found[f]++;
        return FINDING;
    }

    /** What stands against a row by its number; 0: nothing. */
    private int refusalOfRow(Rows rows, int r) {
        if (!rows.isNumber(r)) {
            return BAD;
        }
        return rows.isThere(r) ? 0 : refuse(NOTHING);
    }

    private int refusalOfPlace(Rows rows, int r, int i) {
        int refusal = refusalOfRow(rows, r);
        if (refusal != 0) {
            return refusal;
        }
        return rows.hasPlace(r, i) ? 0 : refuse(BEYOND);
    }

    /** Tells a share of a whole (above 0) by upper(), lower(), in lowest terms. */
    private void tellShare(long share, long whole) {
        long a = whole;
        long b = share;
        // Euclid's steps on longs are fewer than a hundred
        for (int step = 0; step < 100 && b != 0; step++) {
            long rest = a % b;
            a = b;
            b = rest;
        }
        long common = a < 1 ? 1 : a;
        upperLast = share / common;
        lowerLast = whole / common;
    }

    /** Rows of ints by numbers, each there or missing; made once at full length, as what a run makes is counted. */
    private static final class Rows {
        final int[][] places;
        final int[] sizes;

        Rows(int many, int most) {
            places = new int[many][most];
            sizes = new int[many];
            Arrays.fill(sizes, MISSING);
        }

        boolean isNumber(int r) {
            return r >= 0 && r < sizes.length;
        }

        boolean isThere(int r) {
            return isNumber(r) && sizes[r] != MISSING;
        }

        boolean hasPlace(int r, int i) {
            return isThere(r) && i >= 0 && i < sizes[r];
        }

        /** Whether n places from i on are there; none of them are even at the row's end. */
        boolean hasPlaces(int r, int i, int n) {
            return isThere(r) && i >= 0 && i <= sizes[r] && n >= 0 && n <= sizes[r] - i;
        }

        void make(int r, int n, int v) {
            if (isNumber(r) && n >= 0 && n <= places[r].length) {
                sizes[r] = n;
                Arrays.fill(places[r], v);
            }
        }

        int howMany() {
            int many = 0;
            for (int r = 0; r < sizes.length; r++) {
                if (sizes[r] != MISSING) {
                    many++;
                }
            }
            return many;
        }

        long mixInto(long start) {
            long h = start;
            for (int r = 0; r < sizes.length; r++) {
                h = 31 * h + sizes[r];
                for (int i = 0; i < sizes[r]; i++) {
                    h = 31 * h + places[r][i];
                }
            }
            return h;
        }
    }

    /** PEOPLE, SAYINGS and STUCK ROOMS as they were told, and how things stand by the DEEDS. */
    private static final class Family {
        int people = 0;
        final int[] bearing = new int[MOST_PEOPLE];
        int sayings = 0;
        final int[] kind = new int[MOST_SAYINGS];
        final int[] told = new int[MOST_SAYINGS];
        final int[] topics = new int[MOST_SAYINGS];
        int stuckRooms = 0;
        int strain = 0;
        int settled = 0;
        int whoIsOver = NONE;
        final int[] said = new int[MOST_SAYINGS];
        int deeds = 0;
        final int[] deed = new int[MOST_DEEDS];

        /** A draft tells nothing any more; it never has DEEDS. */
        void clear() {
            people = 0;
            sayings = 0;
            stuckRooms = 0;
        }

        void become(Family draft) {
            people = draft.people;
            sayings = draft.sayings;
            stuckRooms = draft.stuckRooms;
            System.arraycopy(draft.bearing, 0, bearing, 0, MOST_PEOPLE);
            System.arraycopy(draft.kind, 0, kind, 0, MOST_SAYINGS);
            System.arraycopy(draft.told, 0, told, 0, MOST_SAYINGS);
            System.arraycopy(draft.topics, 0, topics, 0, MOST_SAYINGS);
            startAnew();
        }

        /** Things stand as without any DEEDS. */
        private void startAnew() {
            strain = 0;
            settled = 0;
            whoIsOver = NONE;
            Arrays.fill(said, 0);
            deeds = 0;
        }

        boolean isEmpty() {
            return sayings == 0 || people == 0;
        }

        boolean hasPerson(int x) {
            return x >= 0 && x < people;
        }

        boolean hasSaying(int i) {
            return i >= 0 && i < sayings;
        }

        boolean isAnyOver() {
            return whoIsOver != NONE;
        }

        boolean isOfKind(int i, int wanted) {
            return kind[i] == wanted || PARENTS[kind[i]] == wanted;
        }

        int howManyOfKind(int wanted) {
            int many = 0;
            for (int i = 0; i < sayings; i++) {
                if (isOfKind(i, wanted)) {
                    many++;
                }
            }
            return many;
        }

        int openTopics() {
            return TOPICS - Integer.bitCount(settled);
        }

        static int nearOf(int kind, int told, int said, int open) {
            switch (kind) {
                case HINT:
                    return told + said;
                case GRACE:
                    return told / 2;
                case JOKE:
                    return Math.max(0, told + said - 2);
                case WILL:
                    return told / 2 + open;
                case SPEECH:
                    return 2 * (told + said);
                default:
                    return told;
            }
        }

        int nearNow(int i) {
            return nearOf(kind[i], told[i], said[i], openTopics());
        }

        int aspect(int i, int what) {
            switch (what) {
                case 0:
                    return kind[i];
                case 1:
                    return told[i];
                case 2:
                    return nearNow(i);
                case 3:
                    return topics[i];
                default:
                    return said[i];
            }
        }

        boolean bearsSaying(int x, int i) {
            return strain + nearNow(i) <= bearing[x];
        }

        int whatCanBeSaid(int x) {
            int bits = 0;
            for (int i = 0; i < sayings && !isAnyOver(); i++) {
                if (bearsSaying(x, i)) {
                    bits |= 1 << i;
                }
            }
            return bits;
        }

        int whoWouldBeOver(int i) {
            int bits = 0;
            for (int x = 0; x < people && !isAnyOver(); x++) {
                if (!bearsSaying(x, i)) {
                    bits |= 1 << x;
                }
            }
            return bits;
        }

        void utter(int x, int i) {
            strain += nearNow(i);
            settled |= topics[i];
            said[i]++;
            if (strain > bearing[x]) {
                whoIsOver = x;
            }
        }

        void ease() {
            strain = Math.max(0, strain - 1);
        }

        /** A TURN that is only tried: takeBack() undoes it. */
        void attempt(int x, int i) {
            if (i == SILENT) {
                ease();
            } else {
                utter(x, i);
            }
        }

        void takeBack(int i, int strainBefore, int settledBefore) {
            if (i != SILENT) {
                said[i]--;
            }
            strain = strainBefore;
            settled = settledBefore;
        }

        static int deedOf(int x, int i) {
            return x * MOST_SAYINGS + i;
        }

        /** A DEED by a number of LOTS; a FAMILY must be there. */
        int deedByLot(long lot) {
            if (isEmpty() || lot / 8 % 4 == 0 || isAnyOver()) {
                return DAY;
            }
            int x = (int) (lot / 64 % people);
            int i = (int) (lot % sayings);
            return bearsSaying(x, i) ? deedOf(x, i) : DAY;
        }

        void record(int what) {
            if (deeds < MOST_DEEDS) {
                deed[deeds] = what;
                deeds++;
                enact(what);
            }
        }

        private void enact(int what) {
            int x = what / MOST_SAYINGS;
            int i = what % MOST_SAYINGS;
            if (what == DAY) {
                ease();
            } else if (hasPerson(x) && hasSaying(i)) {
                utter(x, i);
            }
        }

        /** Things stand as the first n DEEDS alone make them. */
        void goBackTo(int n) {
            startAnew();
            for (int i = 0; i < n && i < MOST_DEEDS; i++) {
                enact(deed[i]);
                deeds++;
            }
        }

        int daysGone() {
            int days = 0;
            for (int i = 0; i < deeds; i++) {
                if (deed[i] == DAY) {
                    days++;
                }
            }
            return days;
        }
    }

    /** Reads a TEXT; what it tells stands in the draft. A place below 0 is a FAULT's, turned by faultAt(). */
    private static final class Reader {
        /** What stands behind a TEXT's end: no byte. */
        private static final int END = 1000;

        final Family draft = new Family();
        private int[] bytes = new int[0];
        private int size = 0;

        int faultOf(int[] text, int n) {
            bytes = text;
            size = Math.min(n, text.length);
            draft.clear();
            int p = readPeople(behindBlanks(0));
            for (int item = 0; item <= BYTES && p >= 0; item++) {
                p = behindBlanks(p);
                if (p >= size) {
                    return draft.sayings > 0 ? NONE : p;
                }
                p = sign(p) == 'd' ? readRoom(p) : readSaying(p);
            }
            return faultAt(p);
        }

        /** A FAULT's place as a number below 0, and back. */
        private static int faultAt(int place) {
            return -1 - place;
        }

        private int sign(int p) {
            return p >= 0 && p < size ? bytes[p] : END;
        }

        /** The figure at a place, -1 if there is none of 0 .. most. */
        private int figure(int p, int most) {
            int f = sign(p) - '0';
            return f >= 0 && f <= most ? f : -1;
        }

        private int behindBlanks(int from) {
            int p = from;
            while (p < size && sign(p) == BLANK) {
                p++;
            }
            return p;
        }

        private int readPeople(int p) {
            if (sign(p) != 'f') {
                return faultAt(p);
            }
            int q = p + 1;
            while (q < size && figure(q, 9) >= 0) {
                if (draft.people >= MOST_PEOPLE) {
                    return faultAt(q);
                }
                draft.bearing[draft.people] = figure(q, 9);
                draft.people++;
                q++;
            }
            return draft.people > 0 ? q : faultAt(q);
        }

        private int readSaying(int p) {
            int kind = kindOf(sign(p));
            if (kind < 0 || draft.sayings >= MOST_SAYINGS || draft.stuckRooms != 0) {
                return faultAt(p);
            }
            int near = figure(p + 1, 9);
            if (near < 0) {
                return faultAt(p + 1);
            }
            int topics = figure(p + 2, ALL_TOPICS);
            if (topics < 0) {
                return faultAt(p + 2);
            }
            draft.kind[draft.sayings] = kind;
            draft.told[draft.sayings] = near;
            draft.topics[draft.sayings] = topics;
            draft.sayings++;
            return p + 3;
        }

        private static int kindOf(int letter) {
            for (int kind = 0; kind < KINDS; kind++) {
                if (LETTERS[kind] == letter) {
                    return kind;
                }
            }
            return -1;
        }

        private int readRoom(int p) {
            if (draft.sayings == 0) {
                return faultAt(p);
            }
            // behind another first figure than 0, 1 it can't go on: no ROOM begins so
            int tens = figure(p + 1, 1);
            if (tens < 0) {
                return faultAt(p + 1);
            }
            int ones = figure(p + 2, 9);
            int room = tens * 10 + ones;
            if (ones < 0 || room >= ROOMS || (draft.stuckRooms & 1 << room) != 0) {
                return faultAt(p + 2);
            }
            draft.stuckRooms |= 1 << room;
            return p + 3;
        }
    }

    /** Rows of TURNS, tried in their order. */
    private static final class Turns {
        /** The row that is tried; the one that was found, behind findFirst(). */
        final int[] trial = new int[MOST_TURNS];
        long number = 0;
        int settleable = 0;
        int leastStrain = NONE;

        /** Whether a row of just n TURNS settles all; the first one stands in trial. */
        boolean findFirst(Family family, int x, int n) {
            return attemptFrom(family, x, 0, n, true);
        }

        void tryAll(Family family, int x, int n) {
            number = 0;
            settleable = 0;
            leastStrain = NONE;
            attemptFrom(family, x, 0, n, false);
        }

        private boolean attemptFrom(Family family, int x, int turn, int n, boolean firstOnly) {
            if (turn >= n || turn >= MOST_TURNS) {
                return firstOnly ? family.settled == ALL_TOPICS : noteEnd(family);
            }
            int after = x + 1 < family.people ? x + 1 : 0;
            for (int i = SILENT; i < family.sayings; i++) {
                if (i != SILENT && !family.bearsSaying(x, i)) {
                    continue;
                }
                int strain = family.strain;
                int settled = family.settled;
                trial[turn] = i;
                family.attempt(x, i);
                boolean isFound = attemptFrom(family, after, turn + 1, n, firstOnly);
                family.takeBack(i, strain, settled);
                if (isFound) {
                    return true;
                }
            }
            return false;
        }

        /** Notes a row's end; never the one that is looked for. */
        private boolean noteEnd(Family family) {
            number++;
            settleable |= family.settled;
            if (family.settled == ALL_TOPICS && (leastStrain == NONE || family.strain < leastStrain)) {
                leastStrain = family.strain;
            }
            return false;
        }
    }

    /** Two of PEOPLE by turns; a worth is for the one who says, the more the better. */
    private static final class Duel {
        static final int SELF = -1, NOBODY = 0, OTHER = 1;

        private Duel() {
        }

        /** The worth for x, who says now, of what is left besides those used (bits), so many. */
        private static int worth(Family family, int x, int y, int used, int many) {
            if (many >= family.sayings || many >= MOST_SAYINGS) {
                return NOBODY;
            }
            int best = SELF;
            for (int i = 0; i < family.sayings && best != OTHER; i++) {
                if ((used & 1 << i) == 0) {
                    best = Math.max(best, worthOf(family, x, y, i, used, many));
                }
            }
            return best;
        }

        private static int worthOf(Family family, int x, int y, int i, int used, int many) {
            if (!family.bearsSaying(x, i)) {
                return SELF;
            }
            int strain = family.strain;
            int settled = family.settled;
            family.attempt(x, i);
            int worth = -worth(family, y, x, used | 1 << i, many + 1);
            family.takeBack(i, strain, settled);
            return worth;
        }

        static int firstBest(Family family, int x, int y) {
            int best = 0;
            int most = SELF;
            for (int i = 0; i < family.sayings; i++) {
                int worth = worthOf(family, x, y, i, 0, 0);
                if (worth > most) {
                    best = i;
                    most = worth;
                }
            }
            return best;
        }
    }

    /** Three rows of four ROOMS, as bits: a step is a shift. */
    private static final class House {
        private static final int ALL_ROOMS = 0xFFF, LEFT_ROOMS = 0x111, RIGHT_ROOMS = 0x888, WIDTH = 4;

        private House() {
        }

        static boolean hasRooms(int a, int b) {
            return a >= 0 && a < ROOMS && b >= 0 && b < ROOMS;
        }

        private static int withBeside(int rooms) {
            int upDown = rooms << WIDTH | rooms >> WIDTH;
            int leftRight = (rooms & ~RIGHT_ROOMS) << 1 | (rooms & ~LEFT_ROOMS) >> 1;
            return (rooms | upDown | leftRight) & ALL_ROOMS;
        }

        static int steps(int a, int b, int stuckRooms) {
            int reached = 1 << a & ~stuckRooms;
            for (int steps = 0; steps < ROOMS; steps++) {
                if ((reached & 1 << b) != 0) {
                    return steps;
                }
                reached = withBeside(reached) & ~stuckRooms;
            }
            return NONE;
        }

        static int onEachWay(int a, int b, int stuckRooms) {
            if (steps(a, b, stuckRooms) == NONE) {
                return 0;
            }
            int bits = 0;
            for (int room = 0; room < ROOMS; room++) {
                if (steps(a, b, stuckRooms | 1 << room) == NONE) {
                    bits |= 1 << room;
                }
            }
            return bits;
        }
    }

    /** On how many of some DAYS STRAIN eases, each way weighed by twelfths. */
    private static final class Chances {
        private final long[] weights = new long[MOST_DAYS + 1];
        long total = 1;

        static boolean fit(int n, int p) {
            return n >= 0 && n <= MOST_DAYS && p >= 0 && p <= TWELVE;
        }

        /** Weighs for n DAYS, p of 12 on each that it does not ease. */
        void spread(int n, int p) {
            Arrays.fill(weights, 0);
            weights[0] = 1;
            total = 1;
            for (int day = 1; day <= n && day <= MOST_DAYS; day++) {
                for (int eased = day; eased > 0; eased--) {
                    weights[eased] = weights[eased] * p + weights[eased - 1] * (TWELVE - p);
                }
                weights[0] *= p;
                total *= TWELVE;
            }
        }

        long strainSum(int n, int strain) {
            long sum = 0;
            for (int eased = 0; eased <= n && eased <= MOST_DAYS; eased++) {
                sum += weights[eased] * Math.max(0, strain - eased);
            }
            return sum;
        }

        /** The weight of STRAIN being at most so much then. */
        long atMost(int n, int strain, int most) {
            long sum = 0;
            for (int eased = 0; eased <= n && eased <= MOST_DAYS; eased++) {
                if (Math.max(0, strain - eased) <= most) {
                    sum += weights[eased];
                }
            }
            return sum;
        }
    }
}
