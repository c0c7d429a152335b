/** Baths by seniority of water: tubs one below the other, bathers, hours, plugs and texts. */
public final class TubSteps {
    private static final int LOW = -1000001;
    private static final int BEYOND = 0;
    private static final int FULL = 1;
    private static final int KIND = 2;
    private static final int NONE = 3;
    private static final int STATE = 4;
    private static final int MISSING = 5;
    private static final int SIZE = 6;
    private static final int FINDINGS = 7;
    private static final int NO_FINDING = -1;

    private static final int TUBS = 10;
    private static final int LOWEST_TUB = TUBS - 1;
    private static final int SCENTS = 4;
    private static final int ALL_SCENTS = 15;
    private static final int BATHERS = 8;
    private static final int SPOTS = 10;
    private static final int NOBODY = -1;
    private static final int MOST_WARMTH = 99;
    private static final int MOST_SCENT = 9999;
    private static final int MOST_HOUR = 99999;

    private static final int SHEETS = 4;
    private static final int SHEET_NUMBERS = 40;
    private static final int ANY = -1;
    private static final int TAPE_BYTES = 120;

    private final Spa spa = new Spa();
    private final Spa kept = new Spa();
    /** What would be is tried here, so that no call makes objects. */
    private final Spa draft = new Spa();
    private final Sheet[] sheets = new Sheet[SHEETS];
    private final byte[] tape = new byte[TAPE_BYTES];
    private final TextReader reader = new TextReader();
    private final int[] found = new int[FINDINGS];
    private int tapeLength = 0;
    private boolean hasKept = false;

    public TubSteps() {
        for (int s = 0; s < SHEETS; s++) {
            sheets[s] = new Sheet();
        }
    }

    // ---- tubs, bathers

    public int warm(int tub, int v) {
        if (!isTub(tub) || !isWithin(v, MOST_WARMTH)) {
            return finding(BEYOND);
        }
        int was = spa.warmth[tub];
        spa.warmth[tub] = v;
        return was;
    }

    public int scent(int tub, int scent, int v) {
        if (!isTub(tub) || !isScent(scent) || !isWithin(v, MOST_SCENT)) {
            return finding(BEYOND);
        }
        int was = spa.scentIn(tub, scent);
        spa.setScent(tub, scent, v);
        return was;
    }

    public int tub(int tub, int what) {
        if (!isTub(tub) || !isWithin(what, 6)) {
            return finding(BEYOND);
        }
        switch (what) {
            case 4:
                return spa.warmth[tub];
            case 5:
                return spa.whoIsIn(tub);
            case 6:
                return spa.scentsIn(tub);
            default:
                return spa.scentIn(tub, what);
        }
    }

    public int fresh(int v) {
        if (!isWithin(v, MOST_WARMTH)) {
            return finding(BEYOND);
        }
        int was = spa.newWarmth;
        spa.newWarmth = v;
        return was;
    }

    public int plug(int tub) {
        if (!isTub(tub)) {
            return finding(BEYOND);
        }
        int was = spa.scentsIn(tub);
        spa.pullPlug(tub);
        return was;
    }

    public int bather(int kind, int tub) {
        if (!Kinds.isKind(kind) || !isTub(tub)) {
            return finding(BEYOND);
        }
        if (spa.isFull()) {
            return finding(FULL);
        }
        return spa.addBather(kind, tub, 0, 0);
    }

    public int of(int bather, int what) {
        if (!spa.hasBather(bather) || !isWithin(what, 7)) {
            return finding(BEYOND);
        }
        switch (what) {
            case 0:
                return spa.kindOf[bather];
            case 1:
                return spa.tubOf[bather];
            case 2:
                return spa.scentOf[bather];
            case 3:
                return spa.known[bather];
            case 4:
                return spa.addsOf(bather);
            case 5:
                return Kinds.cools(spa.kindOf[bather]);
            case 6:
                return Kinds.nose(spa.kindOf[bather]);
            default:
                return spa.smelledBy(bather);
        }
    }

    public int change(int bather, int what, int v) {
        if (!spa.hasBather(bather) || !isWithin(what, 3) || !isWithin(v, mostOf(what))) {
            return finding(BEYOND);
        }
        int[] row = spa.rowOf(what);
        int was = row[bather];
        row[bather] = v;
        return was;
    }

    public int swap(int a, int b) {
        if (!spa.hasBather(a) || !spa.hasBather(b) || a == b) {
            return finding(BEYOND);
        }
        boolean differ = spa.tubOf[a] != spa.tubOf[b];
        spa.changePlaces(a, b);
        return differ ? 1 : 0;
    }

    // ---- hours

    public int go(int n) {
        if (n < 1 || n > 40) {
            return finding(BEYOND);
        }
        if (spa.hour > MOST_HOUR - n) {
            return finding(STATE);
        }
        spa.passHours(n);
        return spa.warmth[LOWEST_TUB];
    }

    public int now(int what) {
        if (!isWithin(what, 5)) {
            return finding(BEYOND);
        }
        switch (what) {
            case 1:
                return spa.allWarmth();
            case 2:
                return spa.allScents();
            case 3:
                return spa.tubsBelow(40);
            case 4:
                return spa.whoKnowAll();
            case 5:
                return spa.whoAreUnknown();
            default:
                return spa.hour;
        }
    }

    // ---- what will be (nothing changes)

    public int ahead(int tub, int what, int n) {
        if (!isTub(tub) || !isWithin(what, 4) || !isWithin(n, 60)) {
            return finding(BEYOND);
        }
        draft.take(spa);
        draft.passHours(n);
        return what == 4 ? draft.warmth[tub] : draft.scentIn(tub, what);
    }

    public int knows(int bather, int n) {
        if (!spa.hasBather(bather) || !isWithin(n, 60)) {
            return finding(BEYOND);
        }
        draft.take(spa);
        draft.passHours(n);
        return draft.known[bather];
    }

    public int when(int bather, int scent) {
        if (!spa.hasBather(bather) || !isScent(scent)) {
            return finding(BEYOND);
        }
        draft.take(spa);
        int hours = hoursUntilKnown(bather, scent, 60);
        return hours < 0 ? finding(NONE) : hours;
    }

    public int cold(int tub, int v) {
        if (!isTub(tub) || !isWithin(v, MOST_WARMTH)) {
            return finding(BEYOND);
        }
        draft.take(spa);
        for (int hours = 0; hours <= 60; hours++) {
            if (draft.warmth[tub] < v) {
                return hours;
            }
            draft.passHour();
        }
        return finding(NONE);
    }

    public int left(int much, int n) {
        if (!isWithin(much, MOST_SCENT) || !isWithin(n, 9)) {
            return finding(BEYOND);
        }
        int still = much;
        for (int step = 0; step < n; step++) {
            still = Spa.stepFurther(still);
        }
        return still;
    }

    public int needed(int v, int n) {
        if (!isWithin(v, 500) || !isWithin(n, 9)) {
            return finding(BEYOND);
        }
        int least = v;
        for (int step = 0; step < n; step++) {
            // three quarters, cut, of x are at least y just when x is at least 4y / 3
            least = (4 * least + 2) / 3;
        }
        return least > MOST_SCENT ? finding(NONE) : least;
    }

    // ---- who with whom, where, as what

    public int swapFor(int bather, int n) {
        if (!spa.hasBather(bather) || !isWithin(n, 40)) {
            return finding(BEYOND);
        }
        int best = NOBODY;
        int most = -1;
        for (int other = 0; other < spa.bathers; other++) {
            if (other == bather) {
                continue;
            }
            draft.take(spa);
            draft.changePlaces(bather, other);
            draft.passHours(n);
            int much = Integer.bitCount(draft.known[bather]);
            if (much > most) {
                most = much;
                best = other;
            }
        }
        return best == NOBODY ? finding(NONE) : best;
    }

    public int seat(int bather, int scent) {
        if (!spa.hasBather(bather) || !isScent(scent)) {
            return finding(BEYOND);
        }
        int best = -1;
        int soonest = 61;
        for (int tub = 0; tub < TUBS; tub++) {
            draft.take(spa);
            draft.tubOf[bather] = tub;
            int hours = hoursUntilKnown(bather, scent, soonest - 1);
            if (hours >= 0) {
                soonest = hours;
                best = tub;
            }
        }
        return best < 0 ? finding(NONE) : best;
    }

    public int kindFor(int bather, int n) {
        if (!spa.hasBather(bather) || !isWithin(n, 40)) {
            return finding(BEYOND);
        }
        int best = 0;
        int most = -1;
        for (int kind = 0; kind < Kinds.KINDS; kind++) {
            draft.take(spa);
            draft.kindOf[bather] = kind;
            draft.passHours(n);
            int much = Integer.bitCount(draft.known[bather]);
            if (much > most) {
                most = much;
                best = kind;
            }
        }
        return best;
    }

    public int freshFor(int v, int n) {
        if (!isWithin(v, MOST_WARMTH) || !isWithin(n, 40)) {
            return finding(BEYOND);
        }
        for (int warmth = 0; warmth <= MOST_WARMTH; warmth++) {
            draft.take(spa);
            draft.newWarmth = warmth;
            draft.passHours(n);
            if (draft.tubsBelow(v) == 0) {
                return warmth;
            }
        }
        return finding(NONE);
    }

    // ---- what hides

    public int hides(int tub, int by, int scent, int n) {
        if (!isTub(tub) || !isScent(by) || !isScent(scent) || !isWithin(n, 20) || by == scent) {
            return finding(BEYOND);
        }
        int there = spa.scentIn(tub, by);
        for (int more = 0; there + more <= MOST_SCENT; more += 10) {
            draft.take(spa);
            draft.setScent(tub, by, there + more);
            if (!isLearned(scent, n)) {
                return more;
            }
        }
        return finding(NONE);
    }

    public int leave(int scent, int n) {
        if (!isScent(scent) || !isWithin(n, 20)) {
            return finding(BEYOND);
        }
        int all = (1 << spa.bathers) - 1;
        int best = all;
        for (int set = 0; set < all; set++) {
            if (Integer.bitCount(set) >= Integer.bitCount(best)) {
                continue;
            }
            draft.take(spa);
            draft.gone = set;
            if (!isLearned(scent, n)) {
                best = set;
            }
        }
        return best;
    }

    public int plugFor(int scent, int n) {
        if (!isScent(scent) || !isWithin(n, 40)) {
            return finding(BEYOND);
        }
        int best = 0;
        int fewest = BATHERS + 1;
        for (int tub = 0; tub < TUBS; tub++) {
            draft.take(spa);
            draft.pullPlug(tub);
            draft.passHours(n);
            int many = Integer.bitCount(draft.whoKnow(scent));
            if (many < fewest) {
                fewest = many;
                best = tub;
            }
        }
        return best;
    }

    // ---- what came out below

    public int fits(int s, int bather) {
        int lack = lackOf(s);
        if (lack != NO_FINDING) {
            return finding(lack);
        }
        if (!spa.hasBather(bather)) {
            return finding(BEYOND);
        }
        int set = 0;
        for (int scent = 0; scent < SCENTS; scent++) {
            draft.take(spa);
            draft.scentOf[bather] = scent;
            if (comesOutAs(sheets[s])) {
                set |= 1 << scent;
            }
        }
        return set;
    }

    public int kinds(int s, int bather) {
        int lack = lackOf(s);
        if (lack != NO_FINDING) {
            return finding(lack);
        }
        if (!spa.hasBather(bather)) {
            return finding(BEYOND);
        }
        int set = 0;
        for (int kind = 0; kind < Kinds.KINDS; kind++) {
            draft.take(spa);
            draft.kindOf[bather] = kind;
            if (comesOutAs(sheets[s])) {
                set |= 1 << kind;
            }
        }
        return set;
    }

    // ---- plugs

    public int plugs(int n) {
        if (n < 1 || n > 20) {
            return finding(BEYOND);
        }
        if (spa.hour > MOST_HOUR - n) {
            return finding(STATE);
        }
        for (int time = 0; time < n; time++) {
            spa.pullPlug(spa.nextDraw() % TUBS);
            spa.passHour();
        }
        return spa.allWarmth();
    }

    public long odds(int n, int what) {
        if (!isWithin(n, 18) || !isWithin(what, 1)) {
            return finding(BEYOND);
        }
        int empty = spa.emptyTubs();
        int part = greatestCommonPart(empty, TUBS);
        long base = (what == 0 ? empty : TUBS) / part;
        long product = 1;
        for (int time = 0; time < n; time++) {
            product *= base;
        }
        return product;
    }

    public int seed(int v) {
        int was = spa.z;
        spa.z = v;
        return was;
    }

    // ---- texts

    public int feed(int bytes, int n) {
        if (n < 1 || n > 4) {
            return finding(BEYOND);
        }
        if (tapeLength > TAPE_BYTES - n) {
            return finding(FULL);
        }
        for (int place = n - 1; place >= 0; place--) {
            tape[tapeLength] = (byte) (bytes >>> (8 * place));
            tapeLength++;
        }
        return tapeLength;
    }

    public int wipe() {
        int was = tapeLength;
        tapeLength = 0;
        return was;
    }

    public int text() {
        draft.take(spa);
        int answer = reader.readText(tape, tapeLength, draft);
        tapeLength = 0;
        if (answer >= 0) {
            spa.take(draft);
        }
        return answer;
    }

    // ---- spots, sheets

    public int hold(int spot, int bather) {
        if (!isSpot(spot) || (bather != NOBODY && !spa.hasBather(bather))) {
            return finding(BEYOND);
        }
        spa.spots[spot] = bather;
        return 1;
    }

    public int as(int spot, int kind) {
        if (!isSpot(spot) || !Kinds.isKind(kind)) {
            return finding(BEYOND);
        }
        int bather = spa.spots[spot];
        if (!spa.hasBather(bather)) {
            return finding(MISSING);
        }
        if (!Kinds.isUnder(spa.kindOf[bather], kind)) {
            return finding(KIND);
        }
        return bather;
    }

    public int sheet(int s, int bits, int n) {
        if (!isSheet(s) || (bits != 0 && bits != 8 && bits != 16 && bits != 32)) {
            return finding(BEYOND);
        }
        if (n < 0) {
            return finding(SIZE);
        }
        if (n > SHEET_NUMBERS) {
            return finding(BEYOND);
        }
        sheets[s].begin(bits, n);
        return bits == 0 ? 0 : n;
    }

    public int write(int s, int i, int v) {
        int lack = lackOf(s);
        if (lack != NO_FINDING) {
            return finding(lack);
        }
        if (i < 0 || i >= sheets[s].length) {
            return finding(BEYOND);
        }
        sheets[s].put(i, v);
        return 1;
    }

    public int copy(int s, int from, int t, int to, int n) {
        if (!isSheet(s) || !isSheet(t)) {
            return finding(BEYOND);
        }
        Sheet source = sheets[s];
        Sheet target = sheets[t];
        if (source.isMissing() || target.isMissing()) {
            return finding(MISSING);
        }
        if (source.bits != target.bits) {
            return finding(KIND);
        }
        if (!source.hasSpan(from, n) || !target.hasSpan(to, n)) {
            return finding(BEYOND);
        }
        System.arraycopy(source.numbers, from, target.numbers, to, n);
        return n;
    }

    public int load(int s) {
        int lack = lackOf(s);
        if (lack != NO_FINDING) {
            return finding(lack);
        }
        Sheet source = sheets[s];
        int came = 0;
        while (came < source.length && came < TUBS && isWithin(source.numbers[came], MOST_WARMTH)) {
            spa.warmth[came] = source.numbers[came];
            came++;
        }
        return came;
    }

    public int judge(int s) {
        int lack = lackOf(s);
        if (lack != NO_FINDING) {
            return finding(lack);
        }
        Sheet told = sheets[s];
        for (int i = 0; i < told.length; i++) {
            if (!spa.hasBather(i) || spa.known[i] != told.numbers[i]) {
                return 1 + i;
            }
        }
        return 0;
    }

    // ---- images

    public int image() {
        kept.take(spa);
        hasKept = true;
        return 1;
    }

    public int undo() {
        if (!hasKept) {
            return finding(NONE);
        }
        spa.take(kept);
        return spa.hour;
    }

    public int tear() {
        int was = hasKept ? 1 : 0;
        hasKept = false;
        return was;
    }

    public int count(int what) {
        if (!isWithin(what, 7)) {
            return finding(BEYOND);
        }
        switch (what) {
            case 1:
                return spa.bathers;
            case 2:
                return spa.knownPairs();
            case 3:
                return spa.allWarmth();
            case 4:
                return spa.allScents();
            case 5:
                return tapeLength;
            case 6:
                return spa.z;
            case 7:
                return spa.heldSpots();
            default:
                return spa.hour;
        }
    }

    public int status(int which) {
        if (which < -1 || which >= FINDINGS) {
            return finding(BEYOND);
        }
        if (which >= 0) {
            return found[which];
        }
        int all = 0;
        for (int each : found) {
            all += each;
        }
        return all;
    }

    // ---- helpers of the calls

    private int finding(int which) {
        found[which]++;
        return LOW - which;
    }

    private static boolean isWithin(int v, int most) {
        return v >= 0 && v <= most;
    }

    private static boolean isTub(int tub) {
        return tub >= 0 && tub < TUBS;
    }

    private static boolean isScent(int scent) {
        return scent >= 0 && scent < SCENTS;
    }

    private static boolean isSpot(int spot) {
        return spot >= 0 && spot < SPOTS;
    }

    private static boolean isSheet(int s) {
        return s >= 0 && s < SHEETS;
    }

    /** The greatest number that a bather's kind (0), tub (1), scent (2) or knowledge (3) can be. */
    private static int mostOf(int what) {
        switch (what) {
            case 0:
                return Kinds.KINDS - 1;
            case 1:
                return TUBS - 1;
            case 2:
                return SCENTS - 1;
            default:
                return ALL_SCENTS;
        }
    }

    private static int greatestCommonPart(int a, int b) {
        for (int part = Math.min(a, b); part > 1; part--) {
            if (a % part == 0 && b % part == 0) {
                return part;
            }
        }
        return 1;
    }

    /** What is wrong with a sheet that a call wants to read: BEYOND, MISSING or NO_FINDING. */
    private int lackOf(int s) {
        if (!isSheet(s)) {
            return BEYOND;
        }
        return sheets[s].isMissing() ? MISSING : NO_FINDING;
    }

    /** Lets the draft go on until a bather knows a scent: how many hours, or -1 if more than most. */
    private int hoursUntilKnown(int bather, int scent, int most) {
        for (int hours = 0; hours <= most; hours++) {
            if ((draft.known[bather] >> scent & 1) != 0) {
                return hours;
            }
            draft.passHour();
        }
        return -1;
    }

    /** Lets the draft go on: does anybody come to know a scent within n hours? */
    private boolean isLearned(int scent, int n) {
        int before = draft.whoKnow(scent);
        for (int hours = 0; hours < n; hours++) {
            draft.passHour();
            if (draft.whoKnow(scent) != before) {
                return true;
            }
        }
        return false;
    }

    /** Lets the draft go on: has the lowest tub as much of scent 0, hour by hour, as a sheet tells? */
    private boolean comesOutAs(Sheet told) {
        for (int i = 0; i < told.length; i++) {
            if (i > 0) {
                draft.passHour();
            }
            int number = told.numbers[i];
            if (number != ANY && number != draft.scentIn(LOWEST_TUB, 0)) {
                return false;
            }
        }
        return true;
    }

    /** What bathers of each kind are like. */
    private static final class Kinds {
        static final int KINDS = 7;
        static final int BATHER = 0;
        static final int DUCHESS = 1;
        static final int CLERK = 2;
        static final int SPY = 3;
        static final int LAMPLIGHTER = 4;
        static final int SAD = 5;
        static final int CONSUL = 6;

        /** The kind that each stands under; the first stands under none. */
        private static final int[] ABOVE = {-1, BATHER, BATHER, CLERK, SPY, BATHER, DUCHESS};

        private static final int BATHER_ADDS = 64;
        private static final int DUCHESS_ADDS = 2 * BATHER_ADDS;
        private static final int CLERK_ADDS = BATHER_ADDS / 2;
        private static final int SPY_ADDS = CLERK_ADDS / 4;
        private static final int SAD_ADDS = 64;

        private static final int BATHER_COOLS = 5;
        private static final int DUCHESS_COOLS = BATHER_COOLS + 3;
        private static final int CONSUL_COOLS = 2 * DUCHESS_COOLS;
        private static final int CLERK_COOLS = BATHER_COOLS - 2;
        private static final int SAD_COOLS = 10;

        private static final int BATHER_NOSE = 100;
        private static final int CONSUL_NOSE = BATHER_NOSE + 200;
        private static final int CLERK_NOSE = BATHER_NOSE / 2;
        private static final int SPY_NOSE = CLERK_NOSE - 20;
        private static final int LAMPLIGHTER_NOSE = SPY_NOSE - 20;
        private static final int SAD_NOSE = 400;

        static boolean isKind(int kind) {
            return kind >= 0 && kind < KINDS;
        }

        static boolean isUnder(int kind, int upper) {
            int each = kind;
            for (int level = 0; level < KINDS && isKind(each); level++) {
                if (each == upper) {
                    return true;
                }
                each = ABOVE[each];
            }
            return false;
        }

        static int adds(int kind, int warmth, int ownThere, int known) {
            switch (kind) {
                case DUCHESS:
                    return DUCHESS_ADDS;
                case CONSUL:
                    return DUCHESS_ADDS + warmth;
                case CLERK:
                    return CLERK_ADDS;
                case SPY:
                    return SPY_ADDS;
                case LAMPLIGHTER:
                    return SPY_ADDS + Integer.bitCount(known);
                case SAD:
                    return ownThere == 0 ? SAD_ADDS : 0;
                default:
                    return BATHER_ADDS;
            }
        }

        static int cools(int kind) {
            switch (kind) {
                case DUCHESS:
                    return DUCHESS_COOLS;
                case CONSUL:
                    return CONSUL_COOLS;
                case CLERK:
                case SPY:
                case LAMPLIGHTER:
                    return CLERK_COOLS;
                case SAD:
                    return SAD_COOLS;
                default:
                    return BATHER_COOLS;
            }
        }

        static int nose(int kind) {
            switch (kind) {
                case CONSUL:
                    return CONSUL_NOSE;
                case CLERK:
                    return CLERK_NOSE;
                case SPY:
                    return SPY_NOSE;
                case LAMPLIGHTER:
                    return LAMPLIGHTER_NOSE;
                case SAD:
                    return SAD_NOSE;
                default:
                    return BATHER_NOSE;
            }
        }
    }

    /** All that an image keeps: tubs, bathers, spots, the hour and the draws. */
    private static final class Spa {
        final int[] warmth = new int[TUBS];
        /** Four numbers a tub, tub by tub. */
        final int[] scents = new int[TUBS * SCENTS];
        final int[] kindOf = new int[BATHERS];
        final int[] tubOf = new int[BATHERS];
        final int[] scentOf = new int[BATHERS];
        final int[] known = new int[BATHERS];
        final int[] spots = new int[SPOTS];
        int bathers = 0;
        int newWarmth = 90;
        int hour = 0;
        int z = 1;
        /** Bathers who have left, as a set: in drafts alone. */
        int gone = 0;

        Spa() {
            for (int spot = 0; spot < SPOTS; spot++) {
                spots[spot] = NOBODY;
            }
        }

        void take(Spa other) {
            System.arraycopy(other.warmth, 0, warmth, 0, TUBS);
            System.arraycopy(other.scents, 0, scents, 0, TUBS * SCENTS);
            System.arraycopy(other.kindOf, 0, kindOf, 0, BATHERS);
            System.arraycopy(other.tubOf, 0, tubOf, 0, BATHERS);
            System.arraycopy(other.scentOf, 0, scentOf, 0, BATHERS);
            System.arraycopy(other.known, 0, known, 0, BATHERS);
            System.arraycopy(other.spots, 0, spots, 0, SPOTS);
            bathers = other.bathers;
            newWarmth = other.newWarmth;
            hour = other.hour;
            z = other.z;
            gone = other.gone;
        }

        boolean hasBather(int bather) {
            return bather >= 0 && bather < bathers;
        }

        boolean isFull() {
            return bathers >= BATHERS;
        }

        int addBather(int kind, int tub, int scent, int set) {
            int bather = bathers;
            kindOf[bather] = kind;
            tubOf[bather] = tub;
            scentOf[bather] = scent;
            known[bather] = set;
            bathers++;
            return bather;
        }

        int[] rowOf(int what) {
            switch (what) {
                case 0:
                    return kindOf;
                case 1:
                    return tubOf;
                case 2:
                    return scentOf;
                default:
                    return known;
            }
        }

        void changePlaces(int a, int b) {
            int tub = tubOf[a];
            tubOf[a] = tubOf[b];
            tubOf[b] = tub;
        }

        int scentIn(int tub, int scent) {
            return scents[tub * SCENTS + scent];
        }

        void setScent(int tub, int scent, int v) {
            scents[tub * SCENTS + scent] = v;
        }

        int scentsIn(int tub) {
            int all = 0;
            for (int scent = 0; scent < SCENTS; scent++) {
                all += scentIn(tub, scent);
            }
            return all;
        }

        void pullPlug(int tub) {
            warmth[tub] = 0;
            for (int scent = 0; scent < SCENTS; scent++) {
                setScent(tub, scent, 0);
            }
        }

        int nextDraw() {
            z = z * 1103515245 + 12345;
            return z >>> 8;
        }

        void passHours(int n) {
            for (int hours = 0; hours < n; hours++) {
                passHour();
            }
        }

        void passHour() {
            letWaterDown();
            for (int bather = 0; bather < bathers; bather++) {
                if (isHere(bather)) {
                    bathe(bather);
                }
            }
            for (int bather = 0; bather < bathers; bather++) {
                if (isHere(bather)) {
                    known[bather] |= smelledBy(bather);
                }
            }
            hour = Math.min(hour + 1, MOST_HOUR);
        }

        /** How much of a scent is left a step further down. */
        static int stepFurther(int much) {
            return much * 3 / 4;
        }

        private void letWaterDown() {
            for (int tub = LOWEST_TUB; tub > 0; tub--) {
                warmth[tub] = Math.max(warmth[tub - 1] - 4, 0);
            }
            for (int i = TUBS * SCENTS - 1; i >= SCENTS; i--) {
                scents[i] = stepFurther(scents[i - SCENTS]);
            }
            pullPlug(0);
            warmth[0] = newWarmth;
        }

        private boolean isHere(int bather) {
            return (gone >> bather & 1) == 0;
        }

        private void bathe(int bather) {
            int tub = tubOf[bather];
            int own = scentOf[bather];
            warmth[tub] = Math.max(warmth[tub] - Kinds.cools(kindOf[bather]), 0);
            // what a bather adds may hang on the warmth that it has just made less
            setScent(tub, own, Math.min(scentIn(tub, own) + addsOf(bather), MOST_SCENT));
        }

        int addsOf(int bather) {
            int tub = tubOf[bather];
            return Kinds.adds(kindOf[bather], warmth[tub], scentIn(tub, scentOf[bather]), known[bather]);
        }

        int smelledBy(int bather) {
            int tub = tubOf[bather];
            int nose = Kinds.nose(kindOf[bather]);
            int all = scentsIn(tub);
            int set = 0;
            for (int scent = 0; scent < SCENTS; scent++) {
                int there = scentIn(tub, scent);
                int mask = (all - there) / 8;
                if (scent != scentOf[bather] && there >= nose + mask) {
                    set |= 1 << scent;
                }
            }
            return set;
        }

        int whoIsIn(int tub) {
            int set = 0;
            for (int bather = 0; bather < bathers; bather++) {
                if (tubOf[bather] == tub) {
                    set |= 1 << bather;
                }
            }
            return set;
        }

        int whoKnow(int scent) {
            int set = 0;
            for (int bather = 0; bather < bathers; bather++) {
                set |= (known[bather] >> scent & 1) << bather;
            }
            return set;
        }

        int whoKnowAll() {
            int set = 0;
            for (int bather = 0; bather < bathers; bather++) {
                if ((known[bather] | 1 << scentOf[bather]) == ALL_SCENTS) {
                    set |= 1 << bather;
                }
            }
            return set;
        }

        int whoAreUnknown() {
            int set = 0;
            for (int bather = 0; bather < bathers; bather++) {
                int itself = 1 << bather;
                if ((whoKnow(scentOf[bather]) & ~itself) == 0) {
                    set |= itself;
                }
            }
            return set;
        }

        int knownPairs() {
            int pairs = 0;
            for (int bather = 0; bather < bathers; bather++) {
                pairs += Integer.bitCount(known[bather]);
            }
            return pairs;
        }

        int tubsBelow(int v) {
            int set = 0;
            for (int tub = 0; tub < TUBS; tub++) {
                if (warmth[tub] < v) {
                    set |= 1 << tub;
                }
            }
            return set;
        }

        int emptyTubs() {
            int empty = 0;
            for (int tub = 0; tub < TUBS; tub++) {
                if (whoIsIn(tub) == 0) {
                    empty++;
                }
            }
            return empty;
        }

        int allWarmth() {
            int all = 0;
            for (int each : warmth) {
                all += each;
            }
            return all;
        }

        int allScents() {
            int all = 0;
            for (int each : scents) {
                all += each;
            }
            return all;
        }

        int heldSpots() {
            int held = 0;
            for (int each : spots) {
                if (each != NOBODY) {
                    held++;
                }
            }
            return held;
        }
    }

    /** A row of numbers of 8, 16 or 32 bits; with 0 bits it is missing. */
    private static final class Sheet {
        final int[] numbers = new int[SHEET_NUMBERS];
        int bits = 0;
        int length = 0;

        void begin(int newBits, int newLength) {
            bits = newBits;
            length = newLength;
            for (int i = 0; i < SHEET_NUMBERS; i++) {
                numbers[i] = 0;
            }
        }

        boolean isMissing() {
            return bits == 0;
        }

        /** Are there n numbers from one on? (No sum is made that could wrap around.) */
        boolean hasSpan(int from, int n) {
            return from >= 0 && n >= 0 && n <= length && from <= length - n;
        }

        void put(int i, int v) {
            switch (bits) {
                case 8:
                    numbers[i] = (byte) v;
                    break;
                case 16:
                    numbers[i] = (short) v;
                    break;
                default:
                    numbers[i] = v;
                    break;
            }
        }
    }

    /**
     * Reads a text into a spa, token by token. The token at hand is passed only when it may stand
     * where it is, so that its first byte is the place of the fault wherever reading stops.
     */
    private static final class TextReader {
        private static final int END = 0;
        private static final int WORD = 1;
        private static final int NUMBER = 2;
        private static final int SIGN = 3;
        private static final int NO_TOKEN = 4;
        private static final int MOST_NUMBER = 9999;

        private byte[] bytes = new byte[0];
        private int length = 0;
        private int token = END;
        private int start = 0;
        private int end = 0;
        private int value = 0;

        /** How many items it has, or -1 less the fault (into is good for nothing then). */
        int readText(byte[] source, int sourceLength, Spa into) {
            bytes = source;
            length = Math.min(sourceLength, source.length);
            end = 0;
            readToken();
            // an item takes a byte at least, so there are no more items than bytes
            for (int items = 1; items <= length; items++) {
                if (!readItem(into)) {
                    break;
                }
                if (token == END) {
                    return items;
                }
                if (token != SIGN) {
                    break;
                }
                readToken();
            }
            return -1 - start;
        }

        private boolean readItem(Spa into) {
            int kind = kindAtHand();
            if (kind >= 0) {
                return readBather(into, kind);
            }
            if (passWord("tub")) {
                return readTub(into);
            }
            if (passWord("fresh")) {
                int v = passNumber(MOST_WARMTH);
                if (v >= 0) {
                    into.newWarmth = v;
                }
                return v >= 0;
            }
            if (passWord("plug")) {
                int tub = passNumber(LOWEST_TUB);
                if (tub >= 0) {
                    into.pullPlug(tub);
                }
                return tub >= 0;
            }
            return false;
        }

        private boolean readBather(Spa into, int kind) {
            if (into.isFull()) {
                return false;
            }
            readToken();
            int tub = passWord("in") ? passNumber(TUBS - 1) : 0;
            if (tub < 0) {
                return false;
            }
            int scent = passWord("with") ? passNumber(SCENTS - 1) : 0;
            if (scent < 0) {
                return false;
            }
            int set = passWord("knows") ? passNumber(ALL_SCENTS) : 0;
            if (set < 0) {
                return false;
            }
            into.addBather(kind, tub, scent, set);
            return true;
        }

        private boolean readTub(Spa into) {
            int tub = passNumber(TUBS - 1);
            if (tub < 0) {
                return false;
            }
            int warmth = passNumber(MOST_WARMTH);
            if (warmth < 0) {
                return false;
            }
            into.warmth[tub] = warmth;
            if (!passWord("of")) {
                return true;
            }
            int scent = passNumber(SCENTS - 1);
            if (scent < 0) {
                return false;
            }
            int much = passNumber(MOST_SCENT);
            if (much < 0) {
                return false;
            }
            into.setScent(tub, scent, much);
            return true;
        }

        /** The kind whose word is at hand, or -1. */
        private int kindAtHand() {
            for (int kind = 0; kind < Kinds.KINDS; kind++) {
                if (isAtHand(kindWord(kind))) {
                    return kind;
                }
            }
            return -1;
        }

        private static String kindWord(int kind) {
            switch (kind) {
                case Kinds.DUCHESS:
                    return "duchess";
                case Kinds.CLERK:
                    return "clerk";
                case Kinds.SPY:
                    return "spy";
                case Kinds.LAMPLIGHTER:
                    return "lamplighter";
                case Kinds.SAD:
                    return "sad";
                case Kinds.CONSUL:
                    return "consul";
                default:
                    return "bather";
            }
        }

        private boolean isAtHand(String word) {
            if (token != WORD || end - start != word.length()) {
                return false;
            }
            for (int i = 0; i < word.length(); i++) {
                if (byteAt(start + i) != word.charAt(i)) {
                    return false;
                }
            }
            return true;
        }

        private boolean passWord(String word) {
            boolean there = isAtHand(word);
            if (there) {
                readToken();
            }
            return there;
        }

        /** The number at hand, which is passed; or -1 if none up to most is at hand. */
        private int passNumber(int most) {
            if (token != NUMBER || value > most) {
                return -1;
            }
            int number = value;
            readToken();
            return number;
        }

        private void readToken() {
            start = end;
            while (start < length && byteAt(start) == ' ') {
                start++;
            }
            end = start;
            int first = byteAt(start);
            if (start >= length) {
                token = END;
            } else if (isLetter(first)) {
                token = WORD;
                while (end < length && isLetter(byteAt(end))) {
                    end++;
                }
            } else if (isDigit(first)) {
                token = NUMBER;
                value = 0;
                while (end < length && isDigit(byteAt(end))) {
                    // kept just above the greatest number, however many digits come
                    value = Math.min(value * 10 + byteAt(end) - '0', MOST_NUMBER + 1);
                    end++;
                }
            } else {
                token = first == ';' ? SIGN : NO_TOKEN;
                end++;
            }
        }

        private int byteAt(int place) {
            return place >= 0 && place < length ? bytes[place] : -1;
        }

        private static boolean isLetter(int each) {
            return each >= 'a' && each <= 'z';
        }

        private static boolean isDigit(int each) {
            return each >= '0' && each <= '9';
        }
    }
}
