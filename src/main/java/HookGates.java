import java.util.NoSuchElementException;

/**
 * A land of gates with hooks, told as a text; who owns what by how hooks hang, and what follows.
 *
 * A WAY (how hooks hang at all gates) is one number, two bits a gate: see Ways. NOW is a way, a
 * SEED and a year: see Moment. Everything else is reckoned from the LAND and a way.
 */
public final class HookGates {
    public static final int NONE = -1;

    private static final int CANNOT_BE = -2;
    private static final int NO_PAY = -100;

    private static final int GRANTED = 0;
    private static final int NO_SUCH = 1;
    private static final int BAD_NUMBER = 2;
    private static final int NO_ROOM = 3;
    private static final int FAULTY = 4;
    private static final int NOT_SO = 5;
    private static final int THERE_IS_NONE = 6;

    private static final int MOST_PEOPLE = 5;
    private static final int MOST_FIRMS = 4;
    private static final int MOST_GATES = 6;
    private static final int MOST_PATHS = 8;
    private static final int MOST_WANTS = 4;
    private static final int MOST_LOST = 4;
    private static final int MOST_MUCH = 599;
    private static final int MOST_MOVES_ASKED = 20;
    private static final int MOST_THEFT = 20;
    private static final int THEFT_PAIRS = 4;
    private static final int MOST_CHANCE_YEARS = 4;
    private static final int MOST_DRAWN_YEARS = 60;
    private static final int MOST_YEARS = 999;
    private static final int MOST_ACTS = 16;
    private static final int MOST_IMAGES = 3;
    private static final int TAPE_BYTES = 900;
    private static final int SEED_MODULUS = 65537;

    private static final int PLAIN = 0;
    private static final int ODD = 1;
    private static final int GUARDED = 2;
    private static final int LOOSE = 3;

    private static final int UNHUNG = 0;
    private static final int AHEAD = 1;
    private static final int BEHIND = 2;

    private static final int HANG_AHEAD = 0;
    private static final int HANG_BEHIND = 1;
    private static final int TAKE_OFF = 2;
    private static final int TURN = 3;
    private static final int SORTS_OF_MOVES = 4;

    private final Tape tape = new Tape();
    private final Reader reader = new Reader(tape);
    private final Moment now = new Moment();
    private final Moment dreamt = new Moment();
    private final Shelf past = new Shelf(MOST_ACTS);
    private final Shelf images = new Shelf(MOST_IMAGES);
    private final Errands errands = new Errands();
    private final Survey survey = new Survey();
    private final Fits lostWays = new Fits();
    private final Ratio ratio = new Ratio();
    private Land country = new Land();
    private int latestTrouble;
    private int latestFault;
    private int faultPlace;

    public HookGates() {
        latestTrouble = GRANTED;
        latestFault = 0;
        faultPlace = NONE;
    }

    // ---- the land

    public int feed(int a, int b, int c, int d, int e) {
        if (!tape.hasRoomForFive()) {
            return NONE;
        }
        tape.addNumber(a);
        tape.addNumber(b);
        tape.addNumber(c);
        tape.addNumber(d);
        tape.addNumber(e);
        return tape.length;
    }

    public int land(int n) {
        if (n < 0 || n > tape.length) {
            return refused(BAD_NUMBER);
        }
        boolean whole = reader.readText(n);
        tape.length = 0;
        latestFault = reader.fault;
        faultPlace = reader.faultPlace;
        if (!whole) {
            return refused(FAULTY);
        }
        settle();
        return answered(country.gates);
    }

    private void settle() {
        country = reader.handOver(country);
        now.set(country.toldWay, 0, 0);
        past.count = 0;
        images.count = 0;
        errands.forget();
        survey.forget();
        lostWays.forget();
    }

    public int fault() {
        return latestFault;
    }

    public int where() {
        return latestTrouble == FAULTY ? faultPlace : NONE;
    }

    // ---- now

    public int gate(int g, int what) {
        if (!isGate(g)) {
            return refused(NO_SUCH);
        }
        switch (what) {
            case 0: return answered(at(country.kinds, g));
            case 1: return answered(at(country.firmOf, g));
            case 2: return answered(at(country.worths, g));
            case 3: return answered(Ways.hungAt(now.way, g));
            case 4: return answered(country.ownersIn(now.way, g));
            case 5: return answered(at(country.near, g));
            default: return refused(NO_SUCH);
        }
    }

    public int person(int p, int what) {
        if (!isPerson(p)) {
            return refused(NO_SUCH);
        }
        switch (what) {
            case 0: return answered(country.wealth(p, now.way));
            case 1: return answered(country.gatesOwned(p, now.way));
            case 2: return answered(country.gatesOwnedAlone(p, now.way));
            case 3: return answered(country.firmsWith(p));
            default: return refused(NO_SUCH);
        }
    }

    public int firm(int f, int what) {
        if (f < 0 || f >= country.firms) {
            return refused(NO_SUCH);
        }
        switch (what) {
            case 0: return answered(at(country.heads, f));
            case 1: return answered(at(country.staffs, f));
            case 2: return answered(country.wealthOfFirm(f, now.way));
            default: return refused(NO_SUCH);
        }
    }

    public int commons() {
        return hasLand() ? answered(country.gatesUnowned(now.way)) : refused(NO_SUCH);
    }

    public int richest() {
        return hasLand() ? answered(country.wealthiest(now.way)) : refused(NO_SUCH);
    }

    public int ground() {
        return hasLand() ? answered(country.hooksLying(now.way)) : refused(NO_SUCH);
    }

    public int hasIf(int p, int g, int hung) {
        if (!isPerson(p) || !isGate(g)) {
            return refused(NO_SUCH);
        }
        if (!isHung(hung)) {
            return refused(BAD_NUMBER);
        }
        return answered(country.wealth(p, Ways.with(now.way, g, hung)));
    }

    public int can(int move) {
        if (move < 0 || move >= SORTS_OF_MOVES * country.gates) {
            return refused(NO_SUCH);
        }
        int sort = HANG_AHEAD;
        int g = move;
        while (sort < TURN && g >= country.gates) {
            g -= country.gates;
            sort++;
        }
        return answered(country.wayAfter(now.way, sort, g) == NONE ? 0 : 1);
    }

    // ---- errands

    public int errand() {
        if (!hasLand()) {
            return refused(NO_SUCH);
        }
        errands.explore(country, now.way);
        int goal = errands.firstMeetingWants(country);
        return answered(goal == NONE ? CANNOT_BE : errands.movesTo(goal));
    }

    public int errandAt(int i) {
        if (!hasLand()) {
            return refused(NO_SUCH);
        }
        errands.explore(country, now.way);
        int goal = errands.firstMeetingWants(country);
        if (goal == NONE || i < 0 || i >= errands.movesTo(goal)) {
            return refused(NO_SUCH);
        }
        return answered(errands.moveTowards(goal, i));
    }

    public int met() {
        return hasLand() ? answered(country.claims.wantsMet(country, now.way)) : refused(NO_SUCH);
    }

    public int movesFor(int p, int much) {
        if (!isPerson(p)) {
            return refused(NO_SUCH);
        }
        if (!isMuch(much)) {
            return refused(BAD_NUMBER);
        }
        errands.explore(country, now.way);
        int goal = errands.firstWithWealth(country, p, much);
        return answered(goal == NONE ? CANNOT_BE : errands.movesTo(goal));
    }

    public int mostBy(int p, int moves) {
        if (!isPerson(p)) {
            return refused(NO_SUCH);
        }
        if (moves < 0 || moves > MOST_MOVES_ASKED) {
            return refused(BAD_NUMBER);
        }
        errands.explore(country, now.way);
        return answered(errands.mostWealthWithin(country, p, moves));
    }

    public int reach() {
        if (!hasLand()) {
            return refused(NO_SUCH);
        }
        errands.explore(country, now.way);
        return answered(errands.count);
    }

    // ---- covers, still ones

    public int cover() {
        if (!hasLand()) {
            return refused(NO_SUCH);
        }
        survey.make(country);
        return answered(survey.coverWay == NONE ? CANNOT_BE : Ways.hooksIn(survey.coverWay));
    }

    public int coverAt(int g) {
        if (!isGate(g)) {
            return refused(NO_SUCH);
        }
        survey.make(country);
        return answered(survey.coverWay == NONE ? CANNOT_BE : Ways.hungAt(survey.coverWay, g));
    }

    public int stills() {
        if (!hasLand()) {
            return refused(NO_SUCH);
        }
        survey.make(country);
        return answered(survey.stillWays);
    }

    public int isStill() {
        if (!hasLand()) {
            return refused(NO_SUCH);
        }
        return answered(country.isStillWay(now.way) ? 1 : 0);
    }

    public int fairest() {
        if (!hasLand()) {
            return refused(NO_SUCH);
        }
        survey.make(country);
        return answered(survey.fairLeast);
    }

    public int fairAt(int g) {
        if (!isGate(g)) {
            return refused(NO_SUCH);
        }
        survey.make(country);
        return answered(Ways.hungAt(survey.fairWay, g));
    }

    // ---- lost ones

    public int fits() {
        if (!hasLand()) {
            return refused(NO_SUCH);
        }
        lostWays.find(country);
        return answered(lostWays.count);
    }

    public int fitAt(int i, int k) {
        if (!isLost(k)) {
            return refused(NO_SUCH);
        }
        lostWays.find(country);
        if (i < 0 || i >= lostWays.count) {
            return refused(NO_SUCH);
        }
        return answered(Ways.hungAt(at(lostWays.found, i), k));
    }

    public int hungBy(int k, int hung) {
        if (!isLost(k)) {
            return refused(NO_SUCH);
        }
        if (!isHung(hung)) {
            return refused(BAD_NUMBER);
        }
        lostWays.find(country);
        return answered(lostWays.countHung(k, hung));
    }

    public int look() {
        if (!hasLand()) {
            return refused(NO_SUCH);
        }
        lostWays.find(country);
        return answered(lostWays.bestToLookAt(country.claims.lost));
    }

    public int lookLeaves() {
        if (!hasLand()) {
            return refused(NO_SUCH);
        }
        lostWays.find(country);
        int best = lostWays.bestToLookAt(country.claims.lost);
        return answered(best == CANNOT_BE ? CANNOT_BE : lostWays.mostLeft(best));
    }

    public int judge() {
        if (!hasLand()) {
            return refused(NO_SUCH);
        }
        return answered(country.claims.firstBelied(country, country.toldWay));
    }

    // ---- paths, sentries

    public int apart(int g, int other) {
        if (!isGate(g) || !isGate(other)) {
            return refused(NO_SUCH);
        }
        return answered(country.fewestPaths(g, other));
    }

    public int sentries() {
        return hasLand() ? answered(country.fewestSentries()) : refused(NO_SUCH);
    }

    public int parts() {
        return hasLand() ? answered(country.countParts()) : refused(NO_SUCH);
    }

    public int estate(int p, int g) {
        if (!isPerson(p) || !isGate(g)) {
            return refused(NO_SUCH);
        }
        int together = country.together(g, country.gatesOwned(p, now.way));
        return answered(country.wealthAt(p, now.way, together));
    }

    // ---- votes

    public long power(int p, boolean lower) {
        if (!isPerson(p)) {
            return refused(NO_SUCH);
        }
        ratio.setPower(country, now.way, p);
        return told(lower);
    }

    public int rule() {
        return hasLand() ? answered(country.fewestRulers(now.way)) : refused(NO_SUCH);
    }

    // ---- a thief, a sentry

    public int steal(int worth, boolean steals, boolean watches, boolean ofSentry) {
        if (!mayPlay(worth)) {
            return NO_PAY;
        }
        return answered(payOf(worth, steals, watches, ofSentry));
    }

    public int rests(int worth) {
        return mayPlay(worth) ? answered(countRests(worth)) : NONE;
    }

    public int rest(int worth) {
        return mayPlay(worth) ? answered(firstRest(worth)) : NONE;
    }

    /** Tells the TROUBLE itself, since the calls answer a refusal differently. */
    private boolean mayPlay(int worth) {
        if (!hasLand()) {
            return denied(NO_SUCH);
        }
        return worth >= 0 && worth <= MOST_THEFT || denied(BAD_NUMBER);
    }

    private static int payOf(int worth, boolean steals, boolean watches, boolean ofSentry) {
        if (!steals) {
            return watches && ofSentry ? -1 : 0;
        }
        if (watches) {
            return ofSentry ? 2 : -3;
        }
        return ofSentry ? -worth : worth;
    }

    private static int countRests(int worth) {
        int found = 0;
        for (int pair = 0; pair < THEFT_PAIRS; pair++) {
            if (isRestPair(worth, pair)) {
                found++;
            }
        }
        return found;
    }

    private static int firstRest(int worth) {
        for (int pair = 0; pair < THEFT_PAIRS; pair++) {
            if (isRestPair(worth, pair)) {
                return 10 * (pair >> 1) + (pair & 1);
            }
        }
        return CANNOT_BE;
    }

    /** A pair is 2 if the one steals, and 1 if the other one watches. */
    private static boolean isRestPair(int worth, int pair) {
        boolean steals = pair >= 2;
        boolean watches = (pair & 1) == 1;
        return payOf(worth, !steals, watches, false) <= payOf(worth, steals, watches, false)
                && payOf(worth, steals, !watches, true) <= payOf(worth, steals, watches, true);
    }

    // ---- gusts

    public long holds(int g, int n, boolean lower) {
        if (!isGate(g)) {
            return refused(NO_SUCH);
        }
        if (n < 0 || n > MOST_CHANCE_YEARS) {
            return refused(BAD_NUMBER);
        }
        ratio.setHolding(country.fallingIn(now.way, g), n);
        return told(lower);
    }

    public long mean(int p, boolean lower) {
        if (!isPerson(p)) {
            return refused(NO_SUCH);
        }
        ratio.setMean(country, now.way, p);
        return told(lower);
    }

    public long keeps(int p, int much, boolean lower) {
        if (!isPerson(p)) {
            return refused(NO_SUCH);
        }
        if (!isMuch(much)) {
            return refused(BAD_NUMBER);
        }
        ratio.setKeeping(country, now.way, p, much);
        return told(lower);
    }

    public int century(int p, int seed, int n) {
        if (!isPerson(p)) {
            return refused(NO_SUCH);
        }
        if (!isSeed(seed) || !isDrawnYears(n)) {
            return refused(BAD_NUMBER);
        }
        dreamt.set(now.way, seed, 0);
        for (int year = 0; year < n; year++) {
            dreamt.blow(country);
        }
        return answered(country.wealth(p, dreamt.way));
    }

    public int bare(int seed, int n) {
        if (!hasLand()) {
            return refused(NO_SUCH);
        }
        if (!isSeed(seed) || !isDrawnYears(n)) {
            return refused(BAD_NUMBER);
        }
        dreamt.set(now.way, seed, 0);
        for (int year = 0; year <= n; year++) {
            if ((dreamt.way & ~country.guardedBits) == 0) {
                return answered(year);
            }
            dreamt.blow(country);
        }
        return answered(CANNOT_BE);
    }

    // ---- acts

    public boolean hang(int g, boolean behind) {
        if (!isGate(g)) {
            return denied(NO_SUCH);
        }
        if (Ways.hungAt(now.way, g) != UNHUNG) {
            return denied(NOT_SO);
        }
        return act(country.wayAfter(now.way, behind ? HANG_BEHIND : HANG_AHEAD, g));
    }

    public boolean take(int g) {
        return mayAlter(g) && act(country.wayAfter(now.way, TAKE_OFF, g));
    }

    public int turnOver(int g) {
        boolean turned = mayAlter(g) && act(country.wayAfter(now.way, TURN, g));
        return turned ? Ways.hungAt(now.way, g) : NONE;
    }

    private boolean mayAlter(int g) {
        if (!isGate(g)) {
            return denied(NO_SUCH);
        }
        return Ways.hungAt(now.way, g) != UNHUNG || denied(NOT_SO);
    }

    /** Does the MOVE that leads to a way; NONE is a MOVE that can't be done. */
    private boolean act(int way) {
        if (way == NONE) {
            return denied(THERE_IS_NONE);
        }
        past.addLatest(now);
        now.set(way, now.seed, now.year);
        latestTrouble = GRANTED;
        return true;
    }

    public int gust() {
        if (!hasLand()) {
            return refused(NO_SUCH);
        }
        if (now.year >= MOST_YEARS) {
            return refused(NO_ROOM);
        }
        past.addLatest(now);
        return answered(now.blow(country));
    }

    public boolean seed(int v) {
        if (!hasLand()) {
            return denied(NO_SUCH);
        }
        if (!isSeed(v)) {
            return denied(BAD_NUMBER);
        }
        now.set(now.way, v, now.year);
        latestTrouble = GRANTED;
        return true;
    }

    public boolean undo() {
        if (past.count == 0) {
            return denied(THERE_IS_NONE);
        }
        past.count--;
        past.bringBack(past.count, now);
        latestTrouble = GRANTED;
        return true;
    }

    public int image() {
        if (!hasLand()) {
            return refused(NO_SUCH);
        }
        if (images.count >= MOST_IMAGES) {
            return refused(NO_ROOM);
        }
        images.addLatest(now);
        return answered(images.count - 1);
    }

    public boolean back(int image) {
        if (image < 0 || image >= images.count) {
            return denied(NO_SUCH);
        }
        images.bringBack(image, now);
        past.count = 0;
        latestTrouble = GRANTED;
        return true;
    }

    // ---- what is told

    public int led(int i) throws NoSuchElementException {
        int p = country.beggar(i, now.way);
        if (p == NONE) {
            throw new NoSuchElementException();
        }
        return p;
    }

    public int size(int what) {
        switch (what) {
            case 0: return country.hooks;
            case 1: return country.gustiness;
            case 2: return country.people;
            case 3: return country.firms;
            case 4: return country.gates;
            case 5: return country.paths;
            case 6: return country.claims.wants;
            case 7: return country.claims.lost;
            case 8: return country.claims.hads;
            case 9: return now.year;
            case 10: return now.seed;
            case 11: return past.count;
            case 12: return images.count;
            case 13: return tape.length;
            default: return NONE;
        }
    }

    public int trouble() {
        return latestTrouble;
    }

    // ---- what calls share

    private int answered(int answer) {
        latestTrouble = GRANTED;
        return answer;
    }

    private long told(boolean lower) {
        latestTrouble = GRANTED;
        return lower ? ratio.lower : ratio.upper;
    }

    private int refused(int why) {
        latestTrouble = why;
        return NONE;
    }

    private boolean denied(int why) {
        latestTrouble = why;
        return false;
    }

    /** Every LAND has a gate, so one without gates is the one that was never told. */
    private boolean hasLand() {
        return country.gates > 0;
    }

    private boolean isGate(int g) {
        return g >= 0 && g < country.gates;
    }

    private boolean isPerson(int p) {
        return p >= 0 && p < country.people;
    }

    private boolean isLost(int k) {
        return k >= 0 && k < country.claims.lost;
    }

    private static boolean isHung(int hung) {
        return hung >= UNHUNG && hung <= BEHIND;
    }

    private static boolean isMuch(int much) {
        return much >= 0 && much <= MOST_MUCH;
    }

    private static boolean isSeed(int v) {
        return v >= 0 && v < SEED_MODULUS;
    }

    private static boolean isDrawnYears(int n) {
        return n >= 0 && n <= MOST_DRAWN_YEARS;
    }

    // Rows are looked at and written only within their bounds, by these two or by a loop over them.
    private static int at(int[] row, int i) {
        return i >= 0 && i < row.length ? row[i] : 0;
    }

    private static void put(int[] row, int i, int value) {
        if (i >= 0 && i < row.length) {
            row[i] = value;
        }
    }

    private static boolean hasBit(int bits, int i) {
        return (bits >> i & 1) == 1;
    }

    /**
     * A WAY: two bits a gate, 0 none, 1 ahead, 2 behind, the first gate's highest. So the first way
     * by gates is the least number, and a hook that hangs is one bit.
     */
    private static final class Ways {
        static final int BOUND = 1 << 2 * MOST_GATES;
        private static final int LOWER_BITS = 0x555;

        static int hungAt(int way, int g) {
            return way >> 2 * (MOST_GATES - 1 - g) & 3;
        }

        static int with(int way, int g, int hung) {
            return way & ~bitsOf(g) | hung << 2 * (MOST_GATES - 1 - g);
        }

        static int bitsOf(int g) {
            return 3 << 2 * (MOST_GATES - 1 - g);
        }

        static int hooksIn(int way) {
            return Integer.bitCount(way);
        }

        /** How many numbers the bits of the first n gates make, ways or not. */
        static int codesOf(int n) {
            return 1 << 2 * n;
        }

        /** The way whose first n gates make such a number, with no hooks behind them. */
        static int fromCode(int code, int n) {
            return code << 2 * (MOST_GATES - n);
        }

        /** No gate has both bits. */
        static boolean isWay(int way) {
            return (way & way >> 1 & LOWER_BITS) == 0;
        }
    }

    /** THE TAPE, and its TOKENS from the left. */
    private static final class Tape {
        static final int END = 0;
        static final int WORD = 1;
        static final int WHOLE = 2;
        static final int SEMICOLON = 3;
        static final int COMMA = 4;
        static final int UNFIT = 5;

        private static final int LONGEST_WORD = 8;
        private static final int LONGEST_WHOLE = 3;

        private final byte[] bytes = new byte[TAPE_BYTES];
        int length;
        private int end;
        private int next;
        int sort;
        int place;
        long word;
        int value;

        boolean hasRoomForFive() {
            return length + 20 <= TAPE_BYTES;
        }

        void addNumber(int number) {
            for (int shift = 24; shift >= 0; shift -= 8) {
                if (length >= 0 && length < bytes.length) {
                    bytes[length] = (byte) (number >> shift);
                    length++;
                }
            }
        }

        void startReading(int n) {
            end = n;
            next = 0;
            advance();
        }

        void advance() {
            while (next < end && byteAt(next) == ' ') {
                next++;
            }
            place = next;
            int sign = byteAt(place);
            if (place >= end) {
                sort = END;
            } else if (isLetter(sign)) {
                scanWord();
            } else if (isDigit(sign)) {
                scanWhole();
            } else {
                sort = sign == ';' ? SEMICOLON : sign == ',' ? COMMA : UNFIT;
                next++;
            }
        }

        /**
         * A WORD is kept as a number, five bits a letter, none of them 0, so that unlike ones are
         * unlike. A run of more letters is no WORD, so its first byte begins no TOKEN.
         */
        private void scanWord() {
            word = 0;
            while (next < end && isLetter(byteAt(next))) {
                word = word << 5 | byteAt(next) - 'a' + 1;
                next++;
            }
            sort = next - place <= LONGEST_WORD ? WORD : UNFIT;
        }

        private void scanWhole() {
            value = 0;
            while (next < end && isDigit(byteAt(next))) {
                value = 10 * value + byteAt(next) - '0';
                next++;
            }
            sort = next - place <= LONGEST_WHOLE ? WHOLE : UNFIT;
        }

        boolean spells(String text) {
            if (sort != WORD || next - place != text.length()) {
                return false;
            }
            for (int i = 0; i < text.length(); i++) {
                if (byteAt(place + i) != text.charAt(i)) {
                    return false;
                }
            }
            return true;
        }

        private int byteAt(int i) {
            return i >= 0 && i < bytes.length ? bytes[i] : 0;
        }

        private static boolean isLetter(int sign) {
            return sign >= 'a' && sign <= 'z';
        }

        private static boolean isDigit(int sign) {
            return sign >= '0' && sign <= '9';
        }
    }

    /** NOW, or what it would become; hooks on the ground follow from the way. */
    private static final class Moment {
        int way;
        int seed;
        int year;

        void set(int newWay, int newSeed, int newYear) {
            way = newWay;
            seed = newSeed;
            year = newYear;
        }

        /** A year of GUSTS by SEED: how many fall. Even a hook that never falls takes its DRAW. */
        int blow(Land land) {
            int fallen = 0;
            for (int g = 0; g < land.gates; g++) {
                if (!land.isGuarded(g) && Ways.hungAt(way, g) != UNHUNG) {
                    seed = (75 * seed + 74) % SEED_MODULUS;
                    if (seed % 100 < land.fallingIn(way, g)) {
                        way = Ways.with(way, g, UNHUNG);
                        fallen++;
                    }
                }
            }
            year++;
            return fallen;
        }
    }

    /** Moments that are kept, the latest last. */
    private static final class Shelf {
        private final int[] ways = new int[MOST_ACTS];
        private final int[] seeds = new int[MOST_ACTS];
        private final int[] years = new int[MOST_ACTS];
        private final int room;
        int count;

        Shelf(int places) {
            room = places;
        }

        void addLatest(Moment moment) {
            if (count >= room) {
                dropFirst();
            }
            put(ways, count, moment.way);
            put(seeds, count, moment.seed);
            put(years, count, moment.year);
            count++;
        }

        void bringBack(int i, Moment moment) {
            moment.set(at(ways, i), at(seeds, i), at(years, i));
        }

        private void dropFirst() {
            for (int i = 1; i < count && i < MOST_ACTS; i++) {
                ways[i - 1] = ways[i];
                seeds[i - 1] = seeds[i];
                years[i - 1] = years[i];
            }
            count--;
        }
    }

    /** What is wanted, lost, and was had. */
    private static final class Claims {
        int wants;
        final int[] wantPeople = new int[MOST_WANTS];
        final int[] wantGates = new int[MOST_WANTS];
        final int[] wantAlone = new int[MOST_WANTS];
        int lost;
        final int[] lostGates = new int[MOST_LOST];
        int hads;
        final int[] had = new int[MOST_PEOPLE];

        void clear() {
            wants = 0;
            lost = 0;
            hads = 0;
            for (int p = 0; p < MOST_PEOPLE; p++) {
                had[p] = NONE;
            }
        }

        void addWant(int p, int g, int alone) {
            put(wantPeople, wants, p);
            put(wantGates, wants, g);
            put(wantAlone, wants, alone);
            wants++;
        }

        boolean isLostGate(int g) {
            for (int k = 0; k < lost; k++) {
                if (at(lostGates, k) == g) {
                    return true;
                }
            }
            return false;
        }

        void addLost(int g) {
            put(lostGates, lost, g);
            lost++;
        }

        void addHad(int p, int much) {
            put(had, p, much);
            hads++;
        }

        int wantsMet(Land land, int way) {
            int bits = 0;
            for (int i = 0; i < wants; i++) {
                int who = land.ownersIn(way, at(wantGates, i));
                int p = at(wantPeople, i);
                if (at(wantAlone, i) == 1 ? who == 1 << p : hasBit(who, p)) {
                    bits |= 1 << i;
                }
            }
            return bits;
        }

        /** The first who had something that he HASn't by a way. */
        int firstBelied(Land land, int way) {
            for (int p = 0; p < land.people; p++) {
                int much = at(had, p);
                if (much != NONE && much != land.wealth(p, way)) {
                    return p;
                }
            }
            return CANNOT_BE;
        }
    }

    /** The LAND as told, and who OWNS and HAS what by a way. */
    private static final class Land {
        int hooks;
        int gustiness;
        int people;
        int firms;
        int gates;
        int paths;
        int toldWay;
        int guardedBits;
        final int[] heads = new int[MOST_FIRMS];
        final int[] staffs = new int[MOST_FIRMS];
        final int[] kinds = new int[MOST_GATES];
        final int[] firmOf = new int[MOST_GATES];
        final int[] worths = new int[MOST_GATES];
        final int[] near = new int[MOST_GATES];
        // Of each gate and how its hook hangs, reckoned once: nearly every call looks at many ways.
        private final int[] owners = new int[4 * MOST_GATES];
        private final int[] portions = new int[4 * MOST_GATES];
        final Claims claims = new Claims();

        void clear() {
            hooks = 0;
            gustiness = 0;
            people = 0;
            firms = 0;
            gates = 0;
            paths = 0;
            toldWay = 0;
            guardedBits = 0;
            for (int g = 0; g < MOST_GATES; g++) {
                near[g] = 0;
            }
            claims.clear();
        }

        void addGate(int kind, int f, int worth, int hung) {
            int g = gates;
            put(kinds, g, kind);
            put(firmOf, g, f);
            put(worths, g, worth);
            toldWay = Ways.with(toldWay, g, hung);
            if (kind == GUARDED) {
                guardedBits |= Ways.bitsOf(g);
            }
            for (int h = UNHUNG; h <= BEHIND; h++) {
                reckonOwners(g, h);
            }
            gates++;
        }

        private void reckonOwners(int g, int hung) {
            int f = at(firmOf, g);
            // An odd gate is owned as a plain one whose hook hangs one step further round.
            int role = at(kinds, g) == ODD ? (hung + 1) % 3 : hung;
            int who = 0;
            if (role == AHEAD) {
                who = 1 << at(heads, f);
            } else if (role == BEHIND) {
                who = at(staffs, f);
            }
            int k = Integer.bitCount(who);
            put(owners, 4 * g + hung, who);
            put(portions, 4 * g + hung, k > 0 ? at(worths, g) / k : 0);
        }

        void addPath(int g, int other) {
            put(near, g, at(near, g) | 1 << other);
            put(near, other, at(near, other) | 1 << g);
            paths++;
        }

        int ownersIn(int way, int g) {
            return at(owners, 4 * g + Ways.hungAt(way, g));
        }

        /** What each owner of a gate has of it. */
        int portionIn(int way, int g) {
            return at(portions, 4 * g + Ways.hungAt(way, g));
        }

        int shareIn(int way, int g, int p) {
            int i = 4 * g + Ways.hungAt(way, g);
            return hasBit(at(owners, i), p) ? at(portions, i) : 0;
        }

        int wealth(int p, int way) {
            int sum = 0;
            for (int g = 0; g < gates; g++) {
                sum += shareIn(way, g, p);
            }
            return sum;
        }

        int wealthOfSet(int peopleBits, int way) {
            int sum = 0;
            for (int p = 0; p < people; p++) {
                if (hasBit(peopleBits, p)) {
                    sum += wealth(p, way);
                }
            }
            return sum;
        }

        int wealthAt(int p, int way, int gateBits) {
            int sum = 0;
            for (int g = 0; g < gates; g++) {
                if (hasBit(gateBits, g)) {
                    sum += shareIn(way, g, p);
                }
            }
            return sum;
        }

        int wealthOfFirm(int f, int way) {
            int sum = 0;
            for (int g = 0; g < gates; g++) {
                if (at(firmOf, g) == f) {
                    sum += Integer.bitCount(ownersIn(way, g)) * portionIn(way, g);
                }
            }
            return sum;
        }

        int gatesOwned(int p, int way) {
            int bits = 0;
            for (int g = 0; g < gates; g++) {
                if (hasBit(ownersIn(way, g), p)) {
                    bits |= 1 << g;
                }
            }
            return bits;
        }

        int gatesOwnedAlone(int p, int way) {
            return gatesOwnedJustBy(1 << p, way);
        }

        int gatesUnowned(int way) {
            return gatesOwnedJustBy(0, way);
        }

        private int gatesOwnedJustBy(int who, int way) {
            int bits = 0;
            for (int g = 0; g < gates; g++) {
                if (ownersIn(way, g) == who) {
                    bits |= 1 << g;
                }
            }
            return bits;
        }

        int firmsWith(int p) {
            int bits = 0;
            for (int f = 0; f < firms; f++) {
                if (hasBit(at(staffs, f), p)) {
                    bits |= 1 << f;
                }
            }
            return bits;
        }

        int wealthiest(int way) {
            int best = CANNOT_BE;
            int most = NONE;
            for (int p = 0; p < people; p++) {
                int much = wealth(p, way);
                if (much > most) {
                    most = much;
                    best = p;
                }
            }
            return best;
        }

        int leastWealth(int way) {
            int least = people > 0 ? wealth(0, way) : 0;
            for (int p = 1; p < people; p++) {
                least = Math.min(least, wealth(p, way));
            }
            return least;
        }

        /** The i-th person who HAS nothing, or NONE. */
        int beggar(int i, int way) {
            int passed = 0;
            for (int p = 0; p < people; p++) {
                if (wealth(p, way) == 0) {
                    if (passed == i) {
                        return p;
                    }
                    passed++;
                }
            }
            return NONE;
        }

        /** Hooks are never lost: what doesn't hang by a way lies on the ground. */
        int hooksLying(int way) {
            return hooks + Ways.hooksIn(toldWay) - Ways.hooksIn(way);
        }

        boolean isGuarded(int g) {
            return (guardedBits & Ways.bitsOf(g)) != 0;
        }

        /** No ACT and no GUST touches a guarded gate, so as NOW is as told. */
        boolean mayHangSo(int way) {
            return Ways.isWay(way) && ((way ^ toldWay) & guardedBits) == 0 && hooksLying(way) >= 0;
        }

        /** The way behind a MOVE, or NONE if it can't be done. */
        int wayAfter(int way, int sort, int g) {
            if (isGuarded(g)) {
                return NONE;
            }
            int hung = Ways.hungAt(way, g);
            if (sort == HANG_AHEAD || sort == HANG_BEHIND) {
                boolean free = hung == UNHUNG && hooksLying(way) > 0;
                return free ? Ways.with(way, g, sort == HANG_AHEAD ? AHEAD : BEHIND) : NONE;
            }
            if (hung == UNHUNG) {
                return NONE;
            }
            return Ways.with(way, g, sort == TURN ? turned(hung) : UNHUNG);
        }

        private static int turned(int hung) {
            return hung == AHEAD ? BEHIND : AHEAD;
        }

        boolean isStillWay(int way) {
            for (int g = 0; g < gates; g++) {
                int hung = Ways.hungAt(way, g);
                if (hung != UNHUNG && !isGuarded(g) && (someoneGains(way, g, UNHUNG)
                        || someoneGains(way, g, turned(hung)))) {
                    return false;
                }
            }
            return true;
        }

        /** Only that gate's share changes, so what he HAS elsewhere need not be looked at. */
        private boolean someoneGains(int way, int g, int hung) {
            int who = ownersIn(way, g);
            int then = Ways.with(way, g, hung);
            for (int p = 0; p < people; p++) {
                if (hasBit(who, p) && shareIn(then, g, p) > portionIn(way, g)) {
                    return true;
                }
            }
            return false;
        }

        /** How likely in a hundred the hook at a gate falls in a year; 0 if none can. */
        int fallingIn(int way, int g) {
            if (isGuarded(g) || Ways.hungAt(way, g) == UNHUNG) {
                return 0;
            }
            return at(kinds, g) == LOOSE ? Math.min(100, 2 * gustiness) : gustiness;
        }

        int fewestPaths(int g, int other) {
            int reached = 1 << g;
            for (int far = 0; far < MOST_GATES; far++) {
                if (hasBit(reached, other)) {
                    return far;
                }
                reached = widened(reached);
            }
            return CANNOT_BE;
        }

        private int widened(int gateBits) {
            int wider = gateBits;
            for (int g = 0; g < gates; g++) {
                if (hasBit(gateBits, g)) {
                    wider |= at(near, g);
                }
            }
            return wider;
        }

        /** Gates that hang together with one through gates that are let; none if that one isn't. */
        int together(int g, int let) {
            int bits = 1 << g & let;
            for (int round = 1; round < MOST_GATES; round++) {
                bits = widened(bits) & let;
            }
            return bits;
        }

        int countParts() {
            int all = (1 << gates) - 1;
            int counted = 0;
            int found = 0;
            for (int g = 0; g < gates; g++) {
                if (!hasBit(counted, g)) {
                    counted |= together(g, all);
                    found++;
                }
            }
            return found;
        }

        int fewestSentries() {
            int all = (1 << gates) - 1;
            int best = all;
            for (int bits = 1; bits < all; bits++) {
                if (Integer.bitCount(bits) < Integer.bitCount(best) && widened(bits) == all) {
                    best = bits;
                }
            }
            return best;
        }

        int peopleWithWealth(int way) {
            int bits = 0;
            for (int p = 0; p < people; p++) {
                if (wealth(p, way) > 0) {
                    bits |= 1 << p;
                }
            }
            return bits;
        }

        int fewestRulers(int way) {
            int everyone = (1 << people) - 1;
            int votes = wealthOfSet(everyone, way);
            if (votes == 0) {
                return CANNOT_BE;
            }
            int best = everyone;
            for (int bits = 1; bits < everyone; bits++) {
                if (Integer.bitCount(bits) < Integer.bitCount(best)
                        && 2 * wealthOfSet(bits, way) > votes) {
                    best = bits;
                }
            }
            return best;
        }
    }

    /** The LAND that THE TAPE tells, up to the first FAULT. */
    private static final class Reader {
        private static final int FORM = 1;
        private static final int UNTOLD = 2;
        private static final int AGAIN = 3;
        private static final int BOUNDS = 4;
        private static final int MANY = 5;
        private static final int LACKS = 6;

        private static final int LAND_LINE = 0;
        private static final int PERSON_LINE = 1;
        private static final int FIRM_LINE = 2;
        private static final int GATE_LINE = 3;
        private static final int PATH_LINE = 4;
        private static final int WANTS_LINE = 5;
        private static final int ALONE_LINE = 6;
        private static final int LOST_LINE = 7;
        private static final int HAD_LINE = 8;

        private static final int MOST_NAMES = MOST_PEOPLE + MOST_FIRMS + MOST_GATES;

        private final Tape tape;
        // Not the LAND of NOW, since a text with a FAULT must leave that one alone.
        private Land into = new Land();
        private boolean landTold;
        private final long[] names = new long[MOST_NAMES];
        private final int[] nameLines = new int[MOST_NAMES];
        private final int[] nameNumbers = new int[MOST_NAMES];
        private int nameCount;

        int fault;
        int faultPlace;

        Reader(Tape text) {
            tape = text;
        }

        /** The LAND that was read, for another one that may be written over. */
        Land handOver(Land old) {
            Land told = into;
            into = old;
            return told;
        }

        boolean readText(int n) {
            into.clear();
            landTold = false;
            nameCount = 0;
            fault = 0;
            faultPlace = NONE;
            tape.startReading(n);
            for (int line = 0; line <= TAPE_BYTES; line++) {
                if (!readLine()) {
                    return false;
                }
                if (tape.sort == Tape.END) {
                    return into.gates > 0 || fail(LACKS);
                }
                if (tape.sort != Tape.SEMICOLON) {
                    return fail(FORM);
                }
                tape.advance();
            }
            return fail(FORM);
        }

        private boolean readLine() {
            int line = lineOf();
            if (line == NONE) {
                return fail(FORM);
            }
            if (line == LAND_LINE) {
                return landTold ? fail(AGAIN) : readLandLine();
            }
            if (!landTold) {
                return fail(LACKS);
            }
            if (isFull(line)) {
                return fail(MANY);
            }
            tape.advance();
            switch (line) {
                case PERSON_LINE: return readPerson();
                case FIRM_LINE: return readFirm();
                case GATE_LINE: return readGate();
                case PATH_LINE: return readPath();
                case WANTS_LINE: return readWant(0);
                case ALONE_LINE: return readWant(1);
                case LOST_LINE: return readLost();
                default: return readHad();
            }
        }

        /** Which LINE the WORD at hand begins; such a WORD is no NAME. */
        private int lineOf() {
            if (tape.spells("land")) {
                return LAND_LINE;
            }
            if (tape.spells("person")) {
                return PERSON_LINE;
            }
            if (tape.spells("firm")) {
                return FIRM_LINE;
            }
            if (tape.spells("gate")) {
                return GATE_LINE;
            }
            if (tape.spells("path")) {
                return PATH_LINE;
            }
            if (tape.spells("wants")) {
                return WANTS_LINE;
            }
            if (tape.spells("alone")) {
                return ALONE_LINE;
            }
            if (tape.spells("lost")) {
                return LOST_LINE;
            }
            return tape.spells("had") ? HAD_LINE : NONE;
        }

        private boolean isFull(int line) {
            switch (line) {
                case PERSON_LINE: return into.people >= MOST_PEOPLE;
                case FIRM_LINE: return into.firms >= MOST_FIRMS;
                case GATE_LINE: return into.gates >= MOST_GATES;
                case PATH_LINE: return into.paths >= MOST_PATHS;
                case WANTS_LINE:
                case ALONE_LINE: return into.claims.wants >= MOST_WANTS;
                case LOST_LINE: return into.claims.lost >= MOST_LOST;
                default: return false;
            }
        }

        private boolean readLandLine() {
            landTold = true;
            tape.advance();
            if (!readWord("hooks") || !isWholeUpTo(6)) {
                return false;
            }
            into.hooks = tape.value;
            tape.advance();
            if (!readWord("gust") || !isWholeUpTo(100)) {
                return false;
            }
            into.gustiness = tape.value;
            tape.advance();
            return true;
        }

        private boolean readPerson() {
            if (!readNewName(PERSON_LINE, into.people)) {
                return false;
            }
            into.people++;
            return true;
        }

        private boolean readFirm() {
            int f = into.firms;
            if (!readNewName(FIRM_LINE, f)) {
                return false;
            }
            int staff = 0;
            // One more than there are people can't be unlike, so the bound cuts no firm short.
            for (int i = 0; i <= MOST_PEOPLE; i++) {
                int p = toldNumber(PERSON_LINE);
                if (p == NONE) {
                    return false;
                }
                if (hasBit(staff, p)) {
                    return fail(AGAIN);
                }
                staff |= 1 << p;
                if (i == 0) {
                    put(into.heads, f, p);
                }
                tape.advance();
                if (tape.sort != Tape.COMMA) {
                    break;
                }
                tape.advance();
            }
            put(into.staffs, f, staff);
            into.firms++;
            return true;
        }

        private boolean readGate() {
            if (!readNewName(GATE_LINE, into.gates)) {
                return false;
            }
            int kind = kindOf();
            if (kind == NONE) {
                return fail(FORM);
            }
            tape.advance();
            int f = toldNumber(FIRM_LINE);
            if (f == NONE) {
                return false;
            }
            tape.advance();
            if (!readWord("worth") || !isWholeUpTo(99)) {
                return false;
            }
            int worth = tape.value;
            tape.advance();
            int hung = hungOf();
            if (hung == NONE) {
                return fail(FORM);
            }
            into.addGate(kind, f, worth, hung);
            tape.advance();
            return true;
        }

        private int kindOf() {
            if (tape.spells("plain")) {
                return PLAIN;
            }
            if (tape.spells("odd")) {
                return ODD;
            }
            if (tape.spells("guarded")) {
                return GUARDED;
            }
            return tape.spells("loose") ? LOOSE : NONE;
        }

        private int hungOf() {
            if (tape.spells("none")) {
                return UNHUNG;
            }
            if (tape.spells("ahead")) {
                return AHEAD;
            }
            return tape.spells("behind") ? BEHIND : NONE;
        }

        private boolean readPath() {
            int g = toldNumber(GATE_LINE);
            if (g == NONE) {
                return false;
            }
            tape.advance();
            int other = toldNumber(GATE_LINE);
            if (other == NONE) {
                return false;
            }
            if (other == g || hasBit(at(into.near, g), other)) {
                return fail(AGAIN);
            }
            into.addPath(g, other);
            tape.advance();
            return true;
        }

        private boolean readWant(int alone) {
            int p = toldNumber(PERSON_LINE);
            if (p == NONE) {
                return false;
            }
            tape.advance();
            int g = toldNumber(GATE_LINE);
            if (g == NONE) {
                return false;
            }
            into.claims.addWant(p, g, alone);
            tape.advance();
            return true;
        }

        private boolean readLost() {
            int g = toldNumber(GATE_LINE);
            if (g == NONE) {
                return false;
            }
            if (into.claims.isLostGate(g)) {
                return fail(AGAIN);
            }
            into.claims.addLost(g);
            tape.advance();
            return true;
        }

        private boolean readHad() {
            int p = toldNumber(PERSON_LINE);
            if (p == NONE) {
                return false;
            }
            if (at(into.claims.had, p) != NONE) {
                return fail(AGAIN);
            }
            tape.advance();
            if (!isWholeUpTo(MOST_MUCH)) {
                return false;
            }
            into.claims.addHad(p, tape.value);
            tape.advance();
            return true;
        }

        private boolean readWord(String text) {
            if (!tape.spells(text)) {
                return fail(FORM);
            }
            tape.advance();
            return true;
        }

        private boolean isWholeUpTo(int most) {
            if (tape.sort != Tape.WHOLE) {
                return fail(FORM);
            }
            return tape.value <= most || fail(BOUNDS);
        }

        private boolean readNewName(int line, int number) {
            if (tape.sort != Tape.WORD || lineOf() != NONE) {
                return fail(FORM);
            }
            if (nameIndex() != NONE) {
                return fail(AGAIN);
            }
            if (nameCount < MOST_NAMES && nameCount >= 0) {
                names[nameCount] = tape.word;
                nameLines[nameCount] = line;
                nameNumbers[nameCount] = number;
                nameCount++;
            }
            tape.advance();
            return true;
        }

        /** The number of what the NAME at hand names, which must have been told by such a LINE. */
        private int toldNumber(int line) {
            if (tape.sort != Tape.WORD || lineOf() != NONE) {
                fail(FORM);
                return NONE;
            }
            int i = nameIndex();
            if (i == NONE || at(nameLines, i) != line) {
                fail(UNTOLD);
                return NONE;
            }
            return at(nameNumbers, i);
        }

        private int nameIndex() {
            for (int i = 0; i < nameCount && i < MOST_NAMES; i++) {
                if (names[i] == tape.word) {
                    return i;
                }
            }
            return NONE;
        }

        private boolean fail(int number) {
            fault = number;
            faultPlace = tape.place;
            return false;
        }
    }

    /**
     * All ways that MOVES lead to, nearest first. Each is met first by the first row of its fewest
     * MOVES, since ways are looked at in the order of their rows and MOVES in that of their numbers.
     */
    private static final class Errands {
        private static final int MOST_WAYS = 729;

        private final int[] ways = new int[MOST_WAYS];
        private final int[] parents = new int[MOST_WAYS];
        private final int[] moves = new int[MOST_WAYS];
        private final int[] depths = new int[MOST_WAYS];
        private final int[] seen = new int[Ways.BOUND / 32];
        private int start = NONE;
        int count;

        void forget() {
            start = NONE;
        }

        void explore(Land land, int from) {
            if (start == from) {
                return;
            }
            start = from;
            count = 0;
            for (int i = 0; i < seen.length; i++) {
                seen[i] = 0;
            }
            add(from, NONE, NONE);
            for (int i = 0; i < count && i < MOST_WAYS; i++) {
                exploreFrom(land, i);
            }
        }

        private void exploreFrom(Land land, int i) {
            for (int sort = HANG_AHEAD; sort <= TURN; sort++) {
                for (int g = 0; g < land.gates; g++) {
                    int way = land.wayAfter(at(ways, i), sort, g);
                    if (way != NONE) {
                        add(way, i, sort * land.gates + g);
                    }
                }
            }
        }

        private void add(int way, int parent, int move) {
            int bits = at(seen, way >> 5);
            if (hasBit(bits, way & 31)) {
                return;
            }
            put(seen, way >> 5, bits | 1 << (way & 31));
            put(ways, count, way);
            put(parents, count, parent);
            put(moves, count, move);
            put(depths, count, parent == NONE ? 0 : movesTo(parent) + 1);
            count++;
        }

        int firstMeetingWants(Land land) {
            int allWants = (1 << land.claims.wants) - 1;
            for (int i = 0; i < count; i++) {
                if (land.claims.wantsMet(land, at(ways, i)) == allWants) {
                    return i;
                }
            }
            return NONE;
        }

        int firstWithWealth(Land land, int p, int much) {
            for (int i = 0; i < count; i++) {
                if (land.wealth(p, at(ways, i)) >= much) {
                    return i;
                }
            }
            return NONE;
        }

        int mostWealthWithin(Land land, int p, int most) {
            int best = 0;
            for (int i = 0; i < count && movesTo(i) <= most; i++) {
                best = Math.max(best, land.wealth(p, at(ways, i)));
            }
            return best;
        }

        int movesTo(int i) {
            return at(depths, i);
        }

        /** The i-th MOVE of the row that leads to a goal, found from its end. */
        int moveTowards(int goal, int i) {
            int step = goal;
            for (int left = movesTo(goal) - 1; left > i; left--) {
                step = at(parents, step);
            }
            return at(moves, step);
        }
    }

    /** What all ways hooks may hang tell: it hangs on the LAND alone, so it is made once. */
    private static final class Survey {
        private boolean made;
        int coverWay;
        int stillWays;
        int fairWay;
        int fairLeast;

        void forget() {
            made = false;
        }

        void make(Land land) {
            if (made) {
                return;
            }
            made = true;
            coverWay = NONE;
            stillWays = 0;
            fairWay = land.toldWay;
            fairLeast = NONE;
            for (int code = 0; code < Ways.codesOf(land.gates); code++) {
                int way = Ways.fromCode(code, land.gates);
                if (land.mayHangSo(way)) {
                    lookAt(land, way);
                }
            }
        }

        private void lookAt(Land land, int way) {
            int least = land.leastWealth(way);
            if (least > 0 && (coverWay == NONE || Ways.hooksIn(way) < Ways.hooksIn(coverWay))) {
                coverWay = way;
            }
            if (least > fairLeast) {
                fairLeast = least;
                fairWay = way;
            }
            if (land.isStillWay(way)) {
                stillWays++;
            }
        }
    }

    /** FITS: found once for each LAND, each kept as a way of the lost gates by themselves. */
    private static final class Fits {
        private static final int MOST_FITS = 81;

        private boolean sought;
        final int[] found = new int[MOST_FITS];
        int count;

        void forget() {
            sought = false;
        }

        void find(Land land) {
            if (sought) {
                return;
            }
            sought = true;
            count = 0;
            int lost = land.claims.lost;
            for (int code = 0; code < Ways.codesOf(lost); code++) {
                int lostWay = Ways.fromCode(code, lost);
                if (Ways.isWay(lostWay) && isFit(land, lostWay)) {
                    put(found, count, lostWay);
                    count++;
                }
            }
        }

        private static boolean isFit(Land land, int lostWay) {
            int way = land.toldWay;
            for (int k = 0; k < land.claims.lost; k++) {
                way = Ways.with(way, at(land.claims.lostGates, k), Ways.hungAt(lostWay, k));
            }
            return land.claims.firstBelied(land, way) == CANNOT_BE;
        }

        int countHung(int k, int hung) {
            int times = 0;
            for (int i = 0; i < count; i++) {
                if (Ways.hungAt(at(found, i), k) == hung) {
                    times++;
                }
            }
            return times;
        }

        int mostLeft(int k) {
            int most = 0;
            for (int hung = UNHUNG; hung <= BEHIND; hung++) {
                most = Math.max(most, countHung(k, hung));
            }
            return most;
        }

        int bestToLookAt(int lost) {
            if (count == 0) {
                return CANNOT_BE;
            }
            int best = CANNOT_BE;
            int fewest = count + 1;
            for (int k = 0; k < lost; k++) {
                int left = mostLeft(k);
                if (left < fewest) {
                    fewest = left;
                    best = k;
                }
            }
            return best;
        }
    }

    /** Answers of two WHOLES, in lowest terms. */
    private static final class Ratio {
        private static final int MOST_STEPS = 100;

        long upper;
        long lower;

        private void set(long newUpper, long newLower) {
            long common = commonDivisor(newUpper, newLower);
            upper = common > 0 ? newUpper / common : newUpper;
            lower = common > 0 ? newLower / common : newLower;
        }

        private static long commonDivisor(long a, long b) {
            long greater = a;
            long less = b;
            for (int step = 0; step < MOST_STEPS && less != 0; step++) {
                long left = greater % less;
                greater = less;
                less = left;
            }
            return greater;
        }

        void setPower(Land land, int way, int p) {
            int own = land.wealth(p, way);
            int others = land.peopleWithWealth(way) & ~(1 << p);
            int all = own + land.wealthOfSet(others, way);
            int sets = 0;
            int decided = 0;
            for (int bits = 0; bits <= others; bits++) {
                if ((bits & ~others) == 0) {
                    int votes = land.wealthOfSet(bits, way);
                    sets++;
                    if (2 * votes <= all && 2 * (votes + own) > all) {
                        decided++;
                    }
                }
            }
            set(decided, sets);
        }

        void setHolding(int falling, int years) {
            long likely = 1;
            long outOf = 1;
            for (int year = 0; year < years; year++) {
                likely *= 100 - falling;
                outOf *= 100;
            }
            set(likely, outOf);
        }

        void setMean(Land land, int way, int p) {
            long hundredths = 0;
            for (int g = 0; g < land.gates; g++) {
                int falling = land.fallingIn(way, g);
                int fallen = Ways.with(way, g, UNHUNG);
                hundredths += (100 - falling) * land.shareIn(way, g, p);
                hundredths += falling * land.shareIn(fallen, g, p);
            }
            set(hundredths, 100);
        }

        void setKeeping(Land land, int way, int p, int much) {
            long likely = 0;
            long outOf = 1;
            for (int g = 0; g < land.gates; g++) {
                outOf *= 100;
            }
            for (int bits = 0; bits < 1 << land.gates; bits++) {
                if (land.wealth(p, wayWithout(way, bits)) >= much) {
                    likely += likelihood(land, way, bits);
                }
            }
            set(likely, outOf);
        }

        /** That just the hooks at these gates fall: 0 if one of them can't. */
        private static long likelihood(Land land, int way, int gateBits) {
            long likely = 1;
            for (int g = 0; g < land.gates; g++) {
                int falling = land.fallingIn(way, g);
                likely *= hasBit(gateBits, g) ? falling : 100 - falling;
            }
            return likely;
        }

        private static int wayWithout(int way, int gateBits) {
            int left = way;
            for (int g = 0; g < MOST_GATES; g++) {
                if (hasBit(gateBits, g)) {
                    left = Ways.with(left, g, UNHUNG);
                }
            }
            return left;
        }
    }
}
