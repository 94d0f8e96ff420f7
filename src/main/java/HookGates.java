import java.util.NoSuchElementException;

/**
 * A land of gates with hooks, told as a text; who owns what by how hooks hang, and what follows.
 *
 * A WAY (how hooks hang at all gates) is one number, two bits a gate: see Ways. NOW is a way, a SEED
 * and a year: see Moment. Everything else is reckoned from the LAND and a way.
 */
public final class HookGates {
    public static final int NONE = -1;

    private static final int CANNOT_BE = -2;
    private static final int NO_PAY = -100;

    private static final int GRANTED = 0;
    private static final int NO_SUCH = 1;
    private static final int BAD_NUMBER = 2;
    private static final int NO_ROOM = 3;
    private static final int FAULTY = 4;
    private static final int NOT_SO = 5;
    private static final int THERE_IS_NONE = 6;

    private static final int MOST_PEOPLE = 5;
    private static final int MOST_FIRMS = 4;
    private static final int MOST_GATES = 6;
    private static final int MOST_PATHS = 8;
    private static final int MOST_WANTS = 4;
    private static final int MOST_LOST = 4;
    private static final int MOST_MUCH = 599;
    private static final int MOST_MOVES_ASKED = 20;
    private static final int MOST_THEFT = 20;
    private static final int MOST_CHANCE_YEARS = 4;
    private static final int MOST_DRAWN_YEARS = 60;
    private static final int MOST_YEARS = 999;
    private static final int MOST_ACTS = 16;
    private static final int MOST_IMAGES = 3;
    private static final int TAPE_BYTES = 900;
    private static final int SEED_MODULUS = 65537;

    private static final int PLAIN = 0;
    private static final int ODD = 1;
    private static final int GUARDED = 2;
    private static final int LOOSE = 3;

    private static final int UNHUNG = 0;
    private static final int AHEAD = 1;
    private static final int BEHIND = 2;

    private static final int HANG_AHEAD = 0;
    private static final int HANG_BEHIND = 1;
    private static final int TAKE_OFF = 2;
    private static final int TURN = 3;
    private static final int SORTS_OF_MOVES = 4;

    private final Tape tape = new Tape();
    private final Reader reader = new Reader();
    private final Moment now = new Moment();
    private final Shelf past = new Shelf(MOST_ACTS);
    private final Shelf images = new Shelf(MOST_IMAGES);
    private final Errands errands = new Errands();
    private final Survey survey = new Survey();
    private final Fits lostWays = new Fits();
    private final Ratio ratio = new Ratio();
    private final Gale gale = new Gale();
    // Two of them, since a text with a FAULT must leave the LAND alone: the spare one is read into.
    private Land country = new Land();
    private Land spare = new Land();
    private int latestTrouble;
    private int latestFault;
    private int faultPlace;

    public HookGates() {
        latestTrouble = GRANTED;
        latestFault = 0;
        faultPlace = NONE;
    }

    // ---- the land

    public int feed(int a, int b, int c, int d, int e) {
        if (!tape.hasRoomForFive()) {
            return NONE;
        }
        tape.addNumber(a);
        tape.addNumber(b);
        tape.addNumber(c);
        tape.addNumber(d);
        tape.addNumber(e);
        return tape.length;
    }

    public int land(int n) {
        if (n < 0 || n > tape.length) {
            return refused(BAD_NUMBER);
        }
        boolean whole = reader.readText(tape, n, spare);
        tape.length = 0;
        latestFault = reader.fault;
        faultPlace = reader.faultPlace;
        if (!whole) {
            return refused(FAULTY);
        }
        settle();
        return answered(country.gates);
    }

    private void settle() {
        Land told = spare;
        spare = country;
        country = told;
        now.set(country.toldWay, 0, 0);
        past.count = 0;
        images.count = 0;
        errands.forget();
        survey.forget();
        lostWays.forget();
    }

    public int fault() {
        return latestFault;
    }

    public int where() {
        return latestTrouble == FAULTY ? faultPlace : NONE;
    }

    // ---- now

    public int gate(int g, int what) {
        if (!isGate(g)) {
            return refused(NO_SUCH);
        }
        switch (what) {
            case 0: return answered(Rows.at(country.kinds, g));
            case 1: return answered(Rows.at(country.firmOf, g));
            case 2: return answered(Rows.at(country.worths, g));
            case 3: return answered(Ways.hungAt(now.way, g));
            case 4: return answered(country.ownersIn(now.way, g));
            case 5: return answered(Rows.at(country.near, g));
            default: return refused(NO_SUCH);
        }
    }

    public int person(int p, int what) {
        if (!isPerson(p)) {
            return refused(NO_SUCH);
        }
        switch (what) {
            case 0: return answered(country.wealth(p, now.way));
            case 1: return answered(country.gatesOwned(p, now.way));
            case 2: return answered(country.gatesOwnedAlone(p, now.way));
            case 3: return answered(country.firmsWith(p));
            default: return refused(NO_SUCH);
        }
    }

    public int firm(int f, int what) {
        if (f < 0 || f >= country.firms) {
            return refused(NO_SUCH);
        }
        switch (what) {
            case 0: return answered(Rows.at(country.heads, f));
            case 1: return answered(Rows.at(country.staffs, f));
            case 2: return answered(country.wealthOfFirm(f, now.way));
            default: return refused(NO_SUCH);
        }
    }

    public int commons() {
        return hasLand() ? answered(country.gatesUnowned(now.way)) : refused(NO_SUCH);
    }

    public int richest() {
        return hasLand() ? answered(country.wealthiest(now.way)) : refused(NO_SUCH);
    }

    public int ground() {
        return hasLand() ? answered(country.hooksLying(now.way)) : refused(NO_SUCH);
    }

    public int hasIf(int p, int g, int hung) {
        if (!isPerson(p) || !isGate(g)) {
            return refused(NO_SUCH);
        }
        if (!isHung(hung)) {
            return refused(BAD_NUMBER);
        }
        return answered(country.wealth(p, Ways.with(now.way, g, hung)));
    }

    public int can(int move) {
        if (move < 0 || move >= SORTS_OF_MOVES * country.gates) {
            return refused(NO_SUCH);
        }
        int sort = HANG_AHEAD;
        int g = move;
        while (sort < TURN && g >= country.gates) {
            g -= country.gates;
            sort++;
        }
        return answered(country.wayAfter(now.way, sort, g) == NONE ? 0 : 1);
    }

    // ---- errands

    public int errand() {
        if (!hasLand()) {
            return refused(NO_SUCH);
        }
        explore();
        int goal = errands.firstMeetingWants(country);
        return answered(goal == NONE ? CANNOT_BE : errands.movesTo(goal));
    }

    public int errandAt(int i) {
        if (!hasLand()) {
            return refused(NO_SUCH);
        }
        explore();
        int goal = errands.firstMeetingWants(country);
        if (goal == NONE || i < 0 || i >= errands.movesTo(goal)) {
            return refused(NO_SUCH);
        }
        return answered(errands.moveTowards(goal, i));
    }

    public int met() {
        return hasLand() ? answered(country.wantsMet(now.way)) : refused(NO_SUCH);
    }

    public int movesFor(int p, int much) {
        if (!isPerson(p)) {
            return refused(NO_SUCH);
        }
        if (!isMuch(much)) {
            return refused(BAD_NUMBER);
        }
        explore();
        int goal = errands.firstWithWealth(country, p, much);
        return answered(goal == NONE ? CANNOT_BE : errands.movesTo(goal));
    }

    public int mostBy(int p, int moves) {
        if (!isPerson(p)) {
            return refused(NO_SUCH);
        }
        if (moves < 0 || moves > MOST_MOVES_ASKED) {
            return refused(BAD_NUMBER);
        }
        explore();
        return answered(errands.mostWealthWithin(country, p, moves));
    }

    public int reach() {
        if (!hasLand()) {
            return refused(NO_SUCH);
        }
        explore();
        return answered(errands.count);
    }

    private void explore() {
        errands.explore(country, now.way);
    }

    // ---- covers, still ones

    public int cover() {
        if (!hasLand()) {
            return refused(NO_SUCH);
        }
        survey.make(country);
        return answered(survey.coverWay == NONE ? CANNOT_BE : Ways.hooksIn(survey.coverWay));
    }

    public int coverAt(int g) {
        if (!isGate(g)) {
            return refused(NO_SUCH);
        }
        survey.make(country);
        return answered(survey.coverWay == NONE ? CANNOT_BE : Ways.hungAt(survey.coverWay, g));
    }

    public int stills() {
        if (!hasLand()) {
            return refused(NO_SUCH);
        }
        survey.make(country);
        return answered(survey.stillWays);
    }

    public int isStill() {
        if (!hasLand()) {
            return refused(NO_SUCH);
        }
        return answered(country.isStillWay(now.way) ? 1 : 0);
    }

    public int fairest() {
        if (!hasLand()) {
            return refused(NO_SUCH);
        }
        survey.make(country);
        return answered(survey.fairLeast);
    }

    public int fairAt(int g) {
        if (!isGate(g)) {
            return refused(NO_SUCH);
        }
        survey.make(country);
        return answered(Ways.hungAt(survey.fairWay, g));
    }

    // ---- lost ones

    public int fits() {
        if (!hasLand()) {
            return refused(NO_SUCH);
        }
        lostWays.find(country);
        return answered(lostWays.count);
    }

    public int fitAt(int i, int k) {
        if (!isLost(k)) {
            return refused(NO_SUCH);
        }
        lostWays.find(country);
        if (i < 0 || i >= lostWays.count) {
            return refused(NO_SUCH);
        }
        return answered(Ways.hungAt(Rows.at(lostWays.found, i), k));
    }

    public int hungBy(int k, int hung) {
        if (!isLost(k)) {
            return refused(NO_SUCH);
        }
        if (!isHung(hung)) {
            return refused(BAD_NUMBER);
        }
        lostWays.find(country);
        return answered(lostWays.countHung(k, hung));
    }

    public int look() {
        if (!hasLand()) {
            return refused(NO_SUCH);
        }
        lostWays.find(country);
        return answered(lostWays.bestToLookAt(country.claims.lost));
    }

    public int lookLeaves() {
        if (!hasLand()) {
            return refused(NO_SUCH);
        }
        lostWays.find(country);
        int best = lostWays.bestToLookAt(country.claims.lost);
        return answered(best == CANNOT_BE ? CANNOT_BE : lostWays.mostLeft(best));
    }

    public int judge() {
        return hasLand() ? answered(country.firstBelied(country.toldWay)) : refused(NO_SUCH);
    }

    // ---- paths, sentries

    public int apart(int g, int other) {
        if (!isGate(g) || !isGate(other)) {
            return refused(NO_SUCH);
        }
        return answered(Roads.fewestPaths(country, g, other));
    }

    public int sentries() {
        return hasLand() ? answered(Roads.fewestSentries(country)) : refused(NO_SUCH);
    }

    public int parts() {
        return hasLand() ? answered(Roads.countParts(country)) : refused(NO_SUCH);
    }

    public int estate(int p, int g) {
        if (!isPerson(p) || !isGate(g)) {
            return refused(NO_SUCH);
        }
        int together = Roads.together(country, g, country.gatesOwned(p, now.way));
        return answered(country.wealthAt(p, now.way, together));
    }

    // ---- votes

    public long power(int p, boolean lower) {
        if (!isPerson(p)) {
            return refused(NO_SUCH);
        }
        Votes.reckonPower(country, now.way, p, ratio);
        return told(lower);
    }

    public int rule() {
        return hasLand() ? answered(Votes.fewestRulers(country, now.way)) : refused(NO_SUCH);
    }

    // ---- a thief, a sentry

    public int steal(int worth, boolean steals, boolean watches, boolean ofSentry) {
        if (!mayPlay(worth)) {
            return NO_PAY;
        }
        return answered(Theft.pay(worth, steals, watches, ofSentry));
    }

    public int rests(int worth) {
        return mayPlay(worth) ? answered(Theft.countRests(worth)) : NONE;
    }

    public int rest(int worth) {
        return mayPlay(worth) ? answered(Theft.firstRest(worth)) : NONE;
    }

    /** Tells the TROUBLE too, since of one and the same TROUBLE three calls answer differently. */
    private boolean mayPlay(int worth) {
        if (!hasLand()) {
            return denied(NO_SUCH);
        }
        return worth >= 0 && worth <= MOST_THEFT || denied(BAD_NUMBER);
    }

    // ---- gusts

    public long holds(int g, int n, boolean lower) {
        if (!isGate(g)) {
            return refused(NO_SUCH);
        }
        if (n < 0 || n > MOST_CHANCE_YEARS) {
            return refused(BAD_NUMBER);
        }
        Chance.reckonHolding(country.fallingIn(now.way, g), n, ratio);
        return told(lower);
    }

    public long mean(int p, boolean lower) {
        if (!isPerson(p)) {
            return refused(NO_SUCH);
        }
        Chance.reckonMean(country, now.way, p, ratio);
        return told(lower);
    }

    public long keeps(int p, int much, boolean lower) {
        if (!isPerson(p)) {
            return refused(NO_SUCH);
        }
        if (!isMuch(much)) {
            return refused(BAD_NUMBER);
        }
        Chance.reckonKeeping(country, now.way, p, much, ratio);
        return told(lower);
    }

    public int century(int p, int seed, int n) {
        if (!isPerson(p)) {
            return refused(NO_SUCH);
        }
        if (!isSeed(seed) || !isDrawnYears(n)) {
            return refused(BAD_NUMBER);
        }
        gale.begin(now.way, seed);
        for (int year = 0; year < n; year++) {
            gale.blow(country);
        }
        return answered(country.wealth(p, gale.way));
    }

    public int bare(int seed, int n) {
        if (!hasLand()) {
            return refused(NO_SUCH);
        }
        if (!isSeed(seed) || !isDrawnYears(n)) {
            return refused(BAD_NUMBER);
        }
        gale.begin(now.way, seed);
        for (int year = 0; year <= n; year++) {
            if ((gale.way & ~country.guardedBits) == 0) {
                return answered(year);
            }
            gale.blow(country);
        }
        return answered(CANNOT_BE);
    }

    // ---- acts

    public boolean hang(int g, boolean behind) {
        if (!isGate(g)) {
            return denied(NO_SUCH);
        }
        if (Ways.hungAt(now.way, g) != UNHUNG) {
            return denied(NOT_SO);
        }
        return act(country.wayAfter(now.way, behind ? HANG_BEHIND : HANG_AHEAD, g));
    }

    public boolean take(int g) {
        return mayAlter(g) && act(country.wayAfter(now.way, TAKE_OFF, g));
    }

    public int turnOver(int g) {
        boolean turned = mayAlter(g) && act(country.wayAfter(now.way, TURN, g));
        return turned ? Ways.hungAt(now.way, g) : NONE;
    }

    private boolean mayAlter(int g) {
        if (!isGate(g)) {
            return denied(NO_SUCH);
        }
        return Ways.hungAt(now.way, g) != UNHUNG || denied(NOT_SO);
    }

    /** Does the MOVE that leads to a way; NONE is a MOVE that can't be done. */
    private boolean act(int way) {
        if (way == NONE) {
            return denied(THERE_IS_NONE);
        }
        past.addLatest(now);
        now.set(way, now.seed, now.year);
        latestTrouble = GRANTED;
        return true;
    }

    public int gust() {
        if (!hasLand()) {
            return refused(NO_SUCH);
        }
        if (now.year >= MOST_YEARS) {
            return refused(NO_ROOM);
        }
        past.addLatest(now);
        gale.begin(now.way, now.seed);
        gale.blow(country);
        now.set(gale.way, gale.seed, now.year + 1);
        return answered(gale.fallen);
    }

    public boolean seed(int v) {
        if (!hasLand()) {
            return denied(NO_SUCH);
        }
        if (!isSeed(v)) {
            return denied(BAD_NUMBER);
        }
        now.set(now.way, v, now.year);
        latestTrouble = GRANTED;
        return true;
    }

    public boolean undo() {
        if (past.count == 0) {
            return denied(THERE_IS_NONE);
        }
        past.count--;
        past.bringBack(past.count, now);
        latestTrouble = GRANTED;
        return true;
    }

    public int image() {
        if (!hasLand()) {
            return refused(NO_SUCH);
        }
        if (images.count >= MOST_IMAGES) {
            return refused(NO_ROOM);
        }
        images.addLatest(now);
        return answered(images.count - 1);
    }

    public boolean back(int image) {
        if (image < 0 || image >= images.count) {
            return denied(NO_SUCH);
        }
        images.bringBack(image, now);
        past.count = 0;
        latestTrouble = GRANTED;
        return true;
    }

    // ---- what is told

    public int led(int i) throws NoSuchElementException {
        int p = country.beggar(i, now.way);
        if (p == NONE) {
            throw new NoSuchElementException();
        }
        return p;
    }

    public int size(int what) {
        switch (what) {
            case 0: return country.hooks;
            case 1: return country.gustiness;
            case 2: return country.people;
            case 3: return country.firms;
            case 4: return country.gates;
            case 5: return country.paths;
            case 6: return country.claims.wants;
            case 7: return country.claims.lost;
            case 8: return country.claims.hads;
            case 9: return now.year;
            case 10: return now.seed;
            case 11: return past.count;
            case 12: return images.count;
            case 13: return tape.length;
            default: return NONE;
        }
    }

    public int trouble() {
        return latestTrouble;
    }

    // ---- what calls share

    private int answered(int answer) {
        latestTrouble = GRANTED;
        return answer;
    }

    private long told(boolean lower) {
        latestTrouble = GRANTED;
        return lower ? ratio.lower : ratio.upper;
    }

    private int refused(int why) {
        latestTrouble = why;
        return NONE;
    }

    private boolean denied(int why) {
        latestTrouble = why;
        return false;
    }

    /** Every LAND has a gate, so one without gates is the one that was never told. */
    private boolean hasLand() {
        return country.gates > 0;
    }

    private boolean isGate(int g) {
        return g >= 0 && g < country.gates;
    }

    private boolean isPerson(int p) {
        return p >= 0 && p < country.people;
    }

    private boolean isLost(int k) {
        return k >= 0 && k < country.claims.lost;
    }

    private static boolean isHung(int hung) {
        return hung >= UNHUNG && hung <= BEHIND;
    }

    private static boolean isMuch(int much) {
        return much >= 0 && much <= MOST_MUCH;
    }

    private static boolean isSeed(int v) {
        return v >= 0 && v < SEED_MODULUS;
    }

    private static boolean isDrawnYears(int n) {
        return n >= 0 && n <= MOST_DRAWN_YEARS;
    }

    /** Rows of numbers, looked at and written only within their bounds. */
    private static final class Rows {
        static int at(int[] row, int i) {
            return i >= 0 && i < row.length ? row[i] : 0;
        }

        static void put(int[] row, int i, int value) {
            if (i >= 0 && i < row.length) {
                row[i] = value;
            }
        }

        static boolean hasBit(int bits, int i) {
            return (bits >> i & 1) == 1;
        }
    }

    /**
     * A WAY: two bits a gate, 0 none, 1 ahead, 2 behind, the first gate's highest. So the first way
     * by gates is the least number, and a hook that hangs is one bit.
     */
    private static final class Ways {
        static final int BOUND = 1 << 2 * MOST_GATES;
        private static final int LOWER_BITS = 0x555;

        static int hungAt(int way, int g) {
            return way >> shiftOf(g) & 3;
        }

        static int with(int way, int g, int hung) {
            return way & ~bitsOf(g) | hung << shiftOf(g);
        }

        static int bitsOf(int g) {
            return 3 << shiftOf(g);
        }

        static int hooksIn(int way) {
            return Integer.bitCount(way);
        }

        /** No gate has both bits. */
        static boolean isWay(int way) {
            return (way & way >> 1 & LOWER_BITS) == 0;
        }

        /** The step from way to way that leaves alone all places behind the first n. */
        static int stepFor(int n) {
            return n >= 0 && n < MOST_GATES ? 1 << 2 * (MOST_GATES - n) : 1;
        }

        private static int shiftOf(int g) {
            return 2 * (MOST_GATES - 1 - g);
        }
    }

    /** THE TAPE. */
    private static final class Tape {
        final byte[] bytes = new byte[TAPE_BYTES];
        int length;

        boolean hasRoomForFive() {
            return length + 20 <= TAPE_BYTES;
        }

        void addNumber(int number) {
            for (int shift = 24; shift >= 0; shift -= 8) {
                if (length >= 0 && length < bytes.length) {
                    bytes[length] = (byte) (number >> shift);
                    length++;
                }
            }
        }
    }

    /** NOW, as far as ACTS change it; hooks on the ground follow from the way. */
    private static final class Moment {
        int way;
        int seed;
        int year;

        void set(int newWay, int newSeed, int newYear) {
            way = newWay;
            seed = newSeed;
            year = newYear;
        }
    }

    /** Moments that are kept, the latest last. */
    private static final class Shelf {
        private final int[] ways = new int[MOST_ACTS];
        private final int[] seeds = new int[MOST_ACTS];
        private final int[] years = new int[MOST_ACTS];
        private final int room;
        int count;

        Shelf(int places) {
            room = places;
        }

        void addLatest(Moment moment) {
            if (count >= room) {
                dropFirst();
            }
            Rows.put(ways, count, moment.way);
            Rows.put(seeds, count, moment.seed);
            Rows.put(years, count, moment.year);
            count++;
        }

        void bringBack(int i, Moment moment) {
            moment.set(Rows.at(ways, i), Rows.at(seeds, i), Rows.at(years, i));
        }

        private void dropFirst() {
            for (int i = 1; i < count && i < MOST_ACTS; i++) {
                ways[i - 1] = ways[i];
                seeds[i - 1] = seeds[i];
                years[i - 1] = years[i];
            }
            count--;
        }
    }

    /** What is wanted, lost, and was had. */
    private static final class Claims {
        int wants;
        final int[] wantPeople = new int[MOST_WANTS];
        final int[] wantGates = new int[MOST_WANTS];
        final int[] wantAlone = new int[MOST_WANTS];
        int lost;
        final int[] lostGates = new int[MOST_LOST];
        int hads;
        final int[] had = new int[MOST_PEOPLE];

        void clear() {
            wants = 0;
            lost = 0;
            hads = 0;
            for (int p = 0; p < MOST_PEOPLE; p++) {
                had[p] = NONE;
            }
        }

        void addWant(int p, int g, int alone) {
            Rows.put(wantPeople, wants, p);
            Rows.put(wantGates, wants, g);
            Rows.put(wantAlone, wants, alone);
            wants++;
        }

        boolean isLostGate(int g) {
            for (int k = 0; k < lost; k++) {
                if (Rows.at(lostGates, k) == g) {
                    return true;
                }
            }
            return false;
        }

        void addLost(int g) {
            Rows.put(lostGates, lost, g);
            lost++;
        }

        void addHad(int p, int much) {
            Rows.put(had, p, much);
            hads++;
        }
    }

    /** The LAND as told, and who OWNS and HAS what by a way. */
    private static final class Land {
        int hooks;
        int gustiness;
        int people;
        int firms;
        int gates;
        int paths;
        int toldWay;
        int guardedBits;
        final int[] heads = new int[MOST_FIRMS];
        final int[] staffs = new int[MOST_FIRMS];
        final int[] kinds = new int[MOST_GATES];
        final int[] firmOf = new int[MOST_GATES];
        final int[] worths = new int[MOST_GATES];
        final int[] near = new int[MOST_GATES];
        // Of each gate and how its hook hangs, reckoned once: nearly every call looks at many ways.
        private final int[] owners = new int[4 * MOST_GATES];
        private final int[] portions = new int[4 * MOST_GATES];
        final Claims claims = new Claims();

        void clear() {
            hooks = 0;
            gustiness = 0;
            people = 0;
            firms = 0;
            gates = 0;
            paths = 0;
            toldWay = 0;
            guardedBits = 0;
            for (int f = 0; f < MOST_FIRMS; f++) {
                staffs[f] = 0;
            }
            for (int g = 0; g < MOST_GATES; g++) {
                near[g] = 0;
            }
            claims.clear();
        }

        void addGate(int kind, int f, int worth, int hung) {
            int g = gates;
            Rows.put(kinds, g, kind);
            Rows.put(firmOf, g, f);
            Rows.put(worths, g, worth);
            toldWay = Ways.with(toldWay, g, hung);
            if (kind == GUARDED) {
                guardedBits |= Ways.bitsOf(g);
            }
            for (int h = UNHUNG; h <= BEHIND; h++) {
                reckonOwners(g, h);
            }
            gates++;
        }

        private void reckonOwners(int g, int hung) {
            int f = Rows.at(firmOf, g);
            // An odd gate is owned as a plain one whose hook hangs one step further round.
            int role = Rows.at(kinds, g) == ODD ? (hung + 1) % 3 : hung;
            int who = 0;
            if (role == AHEAD) {
                who = 1 << Rows.at(heads, f);
            } else if (role == BEHIND) {
                who = Rows.at(staffs, f);
            }
            int k = Integer.bitCount(who);
            Rows.put(owners, 4 * g + hung, who);
            Rows.put(portions, 4 * g + hung, k > 0 ? Rows.at(worths, g) / k : 0);
        }

        void addPath(int g, int other) {
            Rows.put(near, g, Rows.at(near, g) | 1 << other);
            Rows.put(near, other, Rows.at(near, other) | 1 << g);
            paths++;
        }

        int ownersIn(int way, int g) {
            return Rows.at(owners, 4 * g + Ways.hungAt(way, g));
        }

        /** What each owner of a gate has of it. */
        int portionIn(int way, int g) {
            return Rows.at(portions, 4 * g + Ways.hungAt(way, g));
        }

        int shareIn(int way, int g, int p) {
            return Rows.hasBit(ownersIn(way, g), p) ? portionIn(way, g) : 0;
        }

        int wealth(int p, int way) {
            int sum = 0;
            for (int g = 0; g < gates; g++) {
                sum += shareIn(way, g, p);
            }
            return sum;
        }

        int wealthAt(int p, int way, int gateBits) {
            int sum = 0;
            for (int g = 0; g < gates; g++) {
                if (Rows.hasBit(gateBits, g)) {
                    sum += shareIn(way, g, p);
                }
            }
            return sum;
        }

        int wealthOfFirm(int f, int way) {
            int sum = 0;
            for (int g = 0; g < gates; g++) {
                if (Rows.at(firmOf, g) == f) {
                    sum += Integer.bitCount(ownersIn(way, g)) * portionIn(way, g);
                }
            }
            return sum;
        }

        int gatesOwned(int p, int way) {
            int bits = 0;
            for (int g = 0; g < gates; g++) {
                if (Rows.hasBit(ownersIn(way, g), p)) {
                    bits |= 1 << g;
                }
            }
            return bits;
        }

        int gatesOwnedAlone(int p, int way) {
            return gatesOwnedJustBy(1 << p, way);
        }

        int gatesUnowned(int way) {
            return gatesOwnedJustBy(0, way);
        }

        private int gatesOwnedJustBy(int who, int way) {
            int bits = 0;
            for (int g = 0; g < gates; g++) {
                if (ownersIn(way, g) == who) {
                    bits |= 1 << g;
                }
            }
            return bits;
        }

        int firmsWith(int p) {
            int bits = 0;
            for (int f = 0; f < firms; f++) {
                if (Rows.hasBit(Rows.at(staffs, f), p)) {
                    bits |= 1 << f;
                }
            }
            return bits;
        }

        int wealthiest(int way) {
            int best = CANNOT_BE;
            int most = NONE;
            for (int p = 0; p < people; p++) {
                int much = wealth(p, way);
                if (much > most) {
                    most = much;
                    best = p;
                }
            }
            return best;
        }

        int leastWealth(int way) {
            int least = people > 0 ? wealth(0, way) : 0;
            for (int p = 1; p < people; p++) {
                least = Math.min(least, wealth(p, way));
            }
            return least;
        }

        /** The i-th person who HAS nothing, or NONE. */
        int beggar(int i, int way) {
            int met = 0;
            for (int p = 0; p < people; p++) {
                if (wealth(p, way) == 0) {
                    if (met == i) {
                        return p;
                    }
                    met++;
                }
            }
            return NONE;
        }

        int allHooks() {
            return hooks + Ways.hooksIn(toldWay);
        }

        int hooksLying(int way) {
            return allHooks() - Ways.hooksIn(way);
        }

        boolean isGuarded(int g) {
            return (guardedBits & Ways.bitsOf(g)) != 0;
        }

        /** No ACT and no GUST touches a guarded gate, so as NOW is as told. */
        boolean mayHangSo(int way) {
            return Ways.isWay(way) && ((way ^ toldWay) & guardedBits) == 0 && hooksLying(way) >= 0;
        }

        /** The way behind a MOVE, or NONE if it can't be done. */
        int wayAfter(int way, int sort, int g) {
            if (isGuarded(g)) {
                return NONE;
            }
            int hung = Ways.hungAt(way, g);
            if (sort == HANG_AHEAD || sort == HANG_BEHIND) {
                boolean free = hung == UNHUNG && hooksLying(way) > 0;
                return free ? Ways.with(way, g, sort == HANG_AHEAD ? AHEAD : BEHIND) : NONE;
            }
            if (hung == UNHUNG) {
                return NONE;
            }
            return Ways.with(way, g, sort == TURN ? turned(hung) : UNHUNG);
        }

        private static int turned(int hung) {
            return hung == AHEAD ? BEHIND : AHEAD;
        }

        int wantsMet(int way) {
            int bits = 0;
            for (int i = 0; i < claims.wants; i++) {
                int who = ownersIn(way, Rows.at(claims.wantGates, i));
                int p = Rows.at(claims.wantPeople, i);
                boolean alone = Rows.at(claims.wantAlone, i) == 1;
                if (alone ? who == 1 << p : Rows.hasBit(who, p)) {
                    bits |= 1 << i;
                }
            }
            return bits;
        }

        boolean meetsAllWants(int way) {
            return wantsMet(way) == (1 << claims.wants) - 1;
        }

        /** The first who had something that he HASn't by a way. */
        int firstBelied(int way) {
            for (int p = 0; p < people; p++) {
                int much = Rows.at(claims.had, p);
                if (much != NONE && much != wealth(p, way)) {
                    return p;
                }
            }
            return CANNOT_BE;
        }

        boolean isStillWay(int way) {
            for (int g = 0; g < gates; g++) {
                int hung = Ways.hungAt(way, g);
                if (hung != UNHUNG && !isGuarded(g) && (someoneGains(way, g, UNHUNG)
                        || someoneGains(way, g, turned(hung)))) {
                    return false;
                }
            }
            return true;
        }

        /** Only that gate's share changes, so what he HAS elsewhere need not be looked at. */
        private boolean someoneGains(int way, int g, int hung) {
            int who = ownersIn(way, g);
            int then = Ways.with(way, g, hung);
            for (int p = 0; p < people; p++) {
                if (Rows.hasBit(who, p) && shareIn(then, g, p) > portionIn(way, g)) {
                    return true;
                }
            }
            return false;
        }

        /** How likely in a hundred the hook at a gate falls in a year; 0 if none can. */
        int fallingIn(int way, int g) {
            if (isGuarded(g) || Ways.hungAt(way, g) == UNHUNG) {
                return 0;
            }
            return Rows.at(kinds, g) == LOOSE ? Math.min(100, 2 * gustiness) : gustiness;
        }
    }

    /** TOKENS of a text from the left, and the LAND that they tell, up to the first FAULT. */
    private static final class Reader {
        private static final int END = 0;
        private static final int WORD = 1;
        private static final int WHOLE = 2;
        private static final int SEMICOLON = 3;
        private static final int COMMA = 4;
        private static final int UNFIT = 5;

        private static final int FORM = 1;
        private static final int UNTOLD = 2;
        private static final int AGAIN = 3;
        private static final int BOUNDS = 4;
        private static final int MANY = 5;
        private static final int LACKS = 6;

        private static final int LAND_LINE = 0;
        private static final int PERSON_LINE = 1;
        private static final int FIRM_LINE = 2;
        private static final int GATE_LINE = 3;
        private static final int PATH_LINE = 4;
        private static final int WANTS_LINE = 5;
        private static final int ALONE_LINE = 6;
        private static final int LOST_LINE = 7;
        private static final int HAD_LINE = 8;

        private static final int LONGEST_WORD = 8;
        private static final int LONGEST_WHOLE = 3;
        private static final int MOST_NAMES = MOST_PEOPLE + MOST_FIRMS + MOST_GATES;

        private byte[] bytes = new byte[0];
        private int end;
        private int next;
        private int sort;
        private int place;
        private long word;
        private int value;

        private Land into = null;
        private boolean landTold;
        private final long[] names = new long[MOST_NAMES];
        private final int[] nameLines = new int[MOST_NAMES];
        private final int[] nameNumbers = new int[MOST_NAMES];
        private int nameCount;

        int fault;
        int faultPlace;

        boolean readText(Tape tape, int n, Land land) {
            bytes = tape.bytes;
            end = n;
            next = 0;
            into = land;
            into.clear();
            landTold = false;
            nameCount = 0;
            fault = 0;
            faultPlace = NONE;
            advance();
            return readLines();
        }

        private boolean readLines() {
            for (int line = 0; line <= TAPE_BYTES; line++) {
                if (!readLine()) {
                    return false;
                }
                if (sort == END) {
                    return into.gates > 0 || fail(LACKS);
                }
                if (sort != SEMICOLON) {
                    return fail(FORM);
                }
                advance();
            }
            return fail(FORM);
        }

        private boolean readLine() {
            int line = lineOf();
            if (line == NONE) {
                return fail(FORM);
            }
            if (line == LAND_LINE) {
                return landTold ? fail(AGAIN) : readLandLine();
            }
            if (!landTold) {
                return fail(LACKS);
            }
            if (isFull(line)) {
                return fail(MANY);
            }
            advance();
            switch (line) {
                case PERSON_LINE: return readPerson();
                case FIRM_LINE: return readFirm();
                case GATE_LINE: return readGate();
                case PATH_LINE: return readPath();
                case WANTS_LINE: return readWant(0);
                case ALONE_LINE: return readWant(1);
                case LOST_LINE: return readLost();
                default: return readHad();
            }
        }

        /** Which LINE the WORD at hand begins; such a WORD is no NAME. */
        private int lineOf() {
            if (sort != WORD) {
                return NONE;
            }
            if (spells("land")) {
                return LAND_LINE;
            }
            if (spells("person")) {
                return PERSON_LINE;
            }
            if (spells("firm")) {
                return FIRM_LINE;
            }
            if (spells("gate")) {
                return GATE_LINE;
            }
            if (spells("path")) {
                return PATH_LINE;
            }
            if (spells("wants")) {
                return WANTS_LINE;
            }
            if (spells("alone")) {
                return ALONE_LINE;
            }
            if (spells("lost")) {
                return LOST_LINE;
            }
            return spells("had") ? HAD_LINE : NONE;
        }

        private boolean isFull(int line) {
            switch (line) {
                case PERSON_LINE: return into.people >= MOST_PEOPLE;
                case FIRM_LINE: return into.firms >= MOST_FIRMS;
                case GATE_LINE: return into.gates >= MOST_GATES;
                case PATH_LINE: return into.paths >= MOST_PATHS;
                case WANTS_LINE:
                case ALONE_LINE: return into.claims.wants >= MOST_WANTS;
                case LOST_LINE: return into.claims.lost >= MOST_LOST;
                default: return false;
            }
        }

        private boolean readLandLine() {
            landTold = true;
            advance();
            if (!readWord("hooks") || !isWholeUpTo(6)) {
                return false;
            }
            into.hooks = value;
            advance();
            if (!readWord("gust") || !isWholeUpTo(100)) {
                return false;
            }
            into.gustiness = value;
            advance();
            return true;
        }

        private boolean readPerson() {
            if (!readNewName(PERSON_LINE, into.people)) {
                return false;
            }
            into.people++;
            return true;
        }

        private boolean readFirm() {
            int f = into.firms;
            if (!readNewName(FIRM_LINE, f)) {
                return false;
            }
            int head = toldNumber(PERSON_LINE);
            if (head == NONE || !readMember(f)) {
                return false;
            }
            Rows.put(into.heads, f, head);
            // One more than there are people can't be unlike, so the bound cuts no firm short.
            for (int i = 0; i < MOST_PEOPLE && sort == COMMA; i++) {
                advance();
                if (!readMember(f)) {
                    return false;
                }
            }
            into.firms++;
            return true;
        }

        private boolean readMember(int f) {
            int p = toldNumber(PERSON_LINE);
            if (p == NONE) {
                return false;
            }
            int staff = Rows.at(into.staffs, f);
            if (Rows.hasBit(staff, p)) {
                return fail(AGAIN);
            }
            Rows.put(into.staffs, f, staff | 1 << p);
            advance();
            return true;
        }

        private boolean readGate() {
            if (!readNewName(GATE_LINE, into.gates)) {
                return false;
            }
            int kind = kindOf();
            if (kind == NONE) {
                return fail(FORM);
            }
            advance();
            int f = toldNumber(FIRM_LINE);
            if (f == NONE) {
                return false;
            }
            advance();
            if (!readWord("worth") || !isWholeUpTo(99)) {
                return false;
            }
            int worth = value;
            advance();
            int hung = hungOf();
            if (hung == NONE) {
                return fail(FORM);
            }
            into.addGate(kind, f, worth, hung);
            advance();
            return true;
        }

        private int kindOf() {
            if (spells("plain")) {
                return PLAIN;
            }
            if (spells("odd")) {
                return ODD;
            }
            if (spells("guarded")) {
                return GUARDED;
            }
            return spells("loose") ? LOOSE : NONE;
        }

        private int hungOf() {
            if (spells("none")) {
                return UNHUNG;
            }
            if (spells("ahead")) {
                return AHEAD;
            }
            return spells("behind") ? BEHIND : NONE;
        }

        private boolean readPath() {
            int g = toldNumber(GATE_LINE);
            if (g == NONE) {
                return false;
            }
            advance();
            int other = toldNumber(GATE_LINE);
            if (other == NONE) {
                return false;
            }
            if (other == g || Rows.hasBit(Rows.at(into.near, g), other)) {
                return fail(AGAIN);
            }
            into.addPath(g, other);
            advance();
            return true;
        }

        private boolean readWant(int alone) {
            int p = toldNumber(PERSON_LINE);
            if (p == NONE) {
                return false;
            }
            advance();
            int g = toldNumber(GATE_LINE);
            if (g == NONE) {
                return false;
            }
            into.claims.addWant(p, g, alone);
            advance();
            return true;
        }

        private boolean readLost() {
            int g = toldNumber(GATE_LINE);
            if (g == NONE) {
                return false;
            }
            if (into.claims.isLostGate(g)) {
                return fail(AGAIN);
            }
            into.claims.addLost(g);
            advance();
            return true;
        }

        private boolean readHad() {
            int p = toldNumber(PERSON_LINE);
            if (p == NONE) {
                return false;
            }
            if (Rows.at(into.claims.had, p) != NONE) {
                return fail(AGAIN);
            }
            advance();
            if (!isWholeUpTo(MOST_MUCH)) {
                return false;
            }
            into.claims.addHad(p, value);
            advance();
            return true;
        }

        private boolean readWord(String text) {
            if (!spells(text)) {
                return fail(FORM);
            }
            advance();
            return true;
        }

        private boolean isWholeUpTo(int most) {
            if (sort != WHOLE) {
                return fail(FORM);
            }
            return value <= most || fail(BOUNDS);
        }

        private boolean readNewName(int line, int number) {
            if (!isName()) {
                return fail(FORM);
            }
            if (nameIndex() != NONE) {
                return fail(AGAIN);
            }
            if (nameCount < MOST_NAMES && nameCount >= 0) {
                names[nameCount] = word;
                nameLines[nameCount] = line;
                nameNumbers[nameCount] = number;
                nameCount++;
            }
            advance();
            return true;
        }

        /** The number of what the NAME at hand names, which must have been told by such a LINE. */
        private int toldNumber(int line) {
            if (!isName()) {
                fail(FORM);
                return NONE;
            }
            int i = nameIndex();
            if (i == NONE || Rows.at(nameLines, i) != line) {
                fail(UNTOLD);
                return NONE;
            }
            return Rows.at(nameNumbers, i);
        }

        private boolean isName() {
            return sort == WORD && lineOf() == NONE;
        }

        private int nameIndex() {
            for (int i = 0; i < nameCount && i < MOST_NAMES; i++) {
                if (names[i] == word) {
                    return i;
                }
            }
            return NONE;
        }

        private boolean fail(int number) {
            fault = number;
            faultPlace = place;
            return false;
        }

        private boolean spells(String text) {
            if (sort != WORD) {
                return false;
            }
            long letters = 0;
            for (int i = 0; i < text.length(); i++) {
                letters = withLetter(letters, text.charAt(i));
            }
            return word == letters;
        }

        /** Five bits a letter, none of them 0, so that unlike WORDS are unlike numbers. */
        private static long withLetter(long letters, int letter) {
            return letters << 5 | letter - 'a' + 1;
        }

        private void advance() {
            while (next < end && byteAt(next) == ' ') {
                next++;
            }
            place = next;
            int sign = byteAt(place);
            if (place >= end) {
                sort = END;
            } else if (isLetter(sign)) {
                scanWord();
            } else if (isDigit(sign)) {
                scanWhole();
            } else {
                sort = sign == ';' ? SEMICOLON : sign == ',' ? COMMA : UNFIT;
                next++;
            }
        }

        /** A run of more letters than a WORD has is none, so its first byte begins no TOKEN. */
        private void scanWord() {
            word = 0;
            while (next < end && isLetter(byteAt(next))) {
                word = withLetter(word, byteAt(next));
                next++;
            }
            sort = next - place <= LONGEST_WORD ? WORD : UNFIT;
        }

        private void scanWhole() {
            value = 0;
            while (next < end && isDigit(byteAt(next))) {
                value = 10 * value + byteAt(next) - '0';
                next++;
            }
            sort = next - place <= LONGEST_WHOLE ? WHOLE : UNFIT;
        }

        private int byteAt(int i) {
            return i >= 0 && i < bytes.length ? bytes[i] : 0;
        }

        private static boolean isLetter(int sign) {
            return sign >= 'a' && sign <= 'z';
        }

        private static boolean isDigit(int sign) {
            return sign >= '0' && sign <= '9';
        }
    }

    /**
     * All ways that MOVES lead to, nearest first. Each is met first by the first row of MOVES of its
     * fewest, since ways are looked at in the order of their rows and MOVES in that of their numbers.
     */
    private static final class Errands {
        private static final int MOST_WAYS = 729;

        private final int[] ways = new int[MOST_WAYS];
        private final int[] parents = new int[MOST_WAYS];
        private final int[] moves = new int[MOST_WAYS];
        private final int[] depths = new int[MOST_WAYS];
        private final int[] seen = new int[Ways.BOUND / 32];
        private int start = NONE;
        int count;

        void forget() {
            start = NONE;
        }

        void explore(Land land, int from) {
            if (start == from) {
                return;
            }
            start = from;
            count = 0;
            for (int i = 0; i < seen.length; i++) {
                seen[i] = 0;
            }
            add(from, NONE, NONE);
            for (int i = 0; i < count && i < MOST_WAYS; i++) {
                exploreFrom(land, i);
            }
        }

        private void exploreFrom(Land land, int i) {
            for (int sort = HANG_AHEAD; sort <= TURN; sort++) {
                for (int g = 0; g < land.gates; g++) {
                    int way = land.wayAfter(Rows.at(ways, i), sort, g);
                    if (way != NONE) {
                        add(way, i, sort * land.gates + g);
                    }
                }
            }
        }

        private void add(int way, int parent, int move) {
            int bits = Rows.at(seen, way >> 5);
            if (Rows.hasBit(bits, way & 31)) {
                return;
            }
            Rows.put(seen, way >> 5, bits | 1 << (way & 31));
            Rows.put(ways, count, way);
            Rows.put(parents, count, parent);
            Rows.put(moves, count, move);
            Rows.put(depths, count, parent == NONE ? 0 : movesTo(parent) + 1);
            count++;
        }

        int firstMeetingWants(Land land) {
            for (int i = 0; i < count; i++) {
                if (land.meetsAllWants(Rows.at(ways, i))) {
                    return i;
                }
            }
            return NONE;
        }

        int firstWithWealth(Land land, int p, int much) {
            for (int i = 0; i < count; i++) {
                if (land.wealth(p, Rows.at(ways, i)) >= much) {
                    return i;
                }
            }
            return NONE;
        }

        int mostWealthWithin(Land land, int p, int most) {
            int best = 0;
            for (int i = 0; i < count && movesTo(i) <= most; i++) {
                best = Math.max(best, land.wealth(p, Rows.at(ways, i)));
            }
            return best;
        }

        int movesTo(int i) {
            return Rows.at(depths, i);
        }

        /** The i-th MOVE of the row that leads to a goal, found from its end. */
        int moveTowards(int goal, int i) {
            int step = goal;
            for (int left = movesTo(goal) - 1; left > i; left--) {
                step = Rows.at(parents, step);
            }
            return Rows.at(moves, step);
        }
    }

    /** What all ways hooks may hang tell. It hangs on the LAND alone, so it is made once for each. */
    private static final class Survey {
        private boolean made;
        int coverWay;
        int stillWays;
        int fairWay;
        int fairLeast;

        void forget() {
            made = false;
        }

        void make(Land land) {
            if (made) {
                return;
            }
            made = true;
            coverWay = NONE;
            stillWays = 0;
            fairWay = land.toldWay;
            fairLeast = NONE;
            int step = Ways.stepFor(land.gates);
            for (int way = 0; way < Ways.BOUND; way += step) {
                if (land.mayHangSo(way)) {
                    lookAt(land, way);
                }
            }
        }

        private void lookAt(Land land, int way) {
            int least = land.leastWealth(way);
            if (least > 0 && (coverWay == NONE || Ways.hooksIn(way) < Ways.hooksIn(coverWay))) {
                coverWay = way;
            }
            if (least > fairLeast) {
                fairLeast = least;
                fairWay = way;
            }
            if (land.isStillWay(way)) {
                stillWays++;
            }
        }
    }

    /** FITS: found once for each LAND, each kept as a way of the lost gates by themselves. */
    private static final class Fits {
        private static final int MOST_FITS = 81;

        private boolean sought;
        final int[] found = new int[MOST_FITS];
        int count;

        void forget() {
            sought = false;
        }

        void find(Land land) {
            if (sought) {
                return;
            }
            sought = true;
            count = 0;
            int step = Ways.stepFor(land.claims.lost);
            for (int lostWay = 0; lostWay < Ways.BOUND; lostWay += step) {
                if (Ways.isWay(lostWay) && land.firstBelied(wholeWay(land, lostWay)) == CANNOT_BE) {
                    Rows.put(found, count, lostWay);
                    count++;
                }
            }
        }

        private static int wholeWay(Land land, int lostWay) {
            int way = land.toldWay;
            for (int k = 0; k < land.claims.lost; k++) {
                way = Ways.with(way, Rows.at(land.claims.lostGates, k), Ways.hungAt(lostWay, k));
            }
            return way;
        }

        int countHung(int k, int hung) {
            int times = 0;
            for (int i = 0; i < count; i++) {
                if (Ways.hungAt(Rows.at(found, i), k) == hung) {
                    times++;
                }
            }
            return times;
        }

        int mostLeft(int k) {
            int most = 0;
            for (int hung = UNHUNG; hung <= BEHIND; hung++) {
                most = Math.max(most, countHung(k, hung));
            }
            return most;
        }

        int bestToLookAt(int lost) {
            if (count == 0) {
                return CANNOT_BE;
            }
            int best = CANNOT_BE;
            int fewest = count + 1;
            for (int k = 0; k < lost; k++) {
                int left = mostLeft(k);
                if (left < fewest) {
                    fewest = left;
                    best = k;
                }
            }
            return best;
        }
    }

    /** Paths: gates are bits, so that a round looks at all gates at once. */
    private static final class Roads {
        static int fewestPaths(Land land, int g, int other) {
            int reached = 1 << g;
            for (int far = 0; far < MOST_GATES; far++) {
                if (Rows.hasBit(reached, other)) {
                    return far;
                }
                reached = widened(land, reached);
            }
            return CANNOT_BE;
        }

        private static int widened(Land land, int gateBits) {
            int wider = gateBits;
            for (int g = 0; g < land.gates; g++) {
                if (Rows.hasBit(gateBits, g)) {
                    wider |= Rows.at(land.near, g);
                }
            }
            return wider;
        }

        /** Gates that hang together with one through gates that are let; none if that one isn't. */
        static int together(Land land, int g, int let) {
            int bits = 1 << g & let;
            for (int round = 1; round < MOST_GATES; round++) {
                bits = widened(land, bits) & let;
            }
            return bits;
        }

        static int countParts(Land land) {
            int all = (1 << land.gates) - 1;
            int counted = 0;
            int found = 0;
            for (int g = 0; g < land.gates; g++) {
                if (!Rows.hasBit(counted, g)) {
                    counted |= together(land, g, all);
                    found++;
                }
            }
            return found;
        }

        static int fewestSentries(Land land) {
            int all = (1 << land.gates) - 1;
            int best = all;
            for (int bits = 1; bits < all; bits++) {
                if (Integer.bitCount(bits) < Integer.bitCount(best) && widened(land, bits) == all) {
                    best = bits;
                }
            }
            return best;
        }
    }

    /** A ratio of WHOLES in lowest terms. */
    private static final class Ratio {
        private static final int MOST_STEPS = 100;

        long upper;
        long lower;

        void set(long newUpper, long newLower) {
            long common = commonDivisor(newUpper, newLower);
            upper = common > 0 ? newUpper / common : newUpper;
            lower = common > 0 ? newLower / common : newLower;
        }

        private static long commonDivisor(long a, long b) {
            long greater = a;
            long less = b;
            for (int step = 0; step < MOST_STEPS && less != 0; step++) {
                long left = greater % less;
                greater = less;
                less = left;
            }
            return greater;
        }
    }

    /** VOTES. */
    private static final class Votes {
        static void reckonPower(Land land, int way, int p, Ratio ratio) {
            int own = land.wealth(p, way);
            int all = votesOf(land, way, everyone(land));
            int sets = 0;
            int turnedByHim = 0;
            int others = owning(land, way) & ~(1 << p);
            for (int bits = 0; bits <= others; bits++) {
                if ((bits & ~others) == 0) {
                    int votes = votesOf(land, way, bits);
                    sets++;
                    if (2 * votes <= all && 2 * (votes + own) > all) {
                        turnedByHim++;
                    }
                }
            }
            ratio.set(turnedByHim, sets);
        }

        static int fewestRulers(Land land, int way) {
            int everyone = everyone(land);
            int all = votesOf(land, way, everyone);
            if (all == 0) {
                return CANNOT_BE;
            }
            int best = everyone;
            for (int bits = 1; bits < everyone; bits++) {
                if (Integer.bitCount(bits) < Integer.bitCount(best)
                        && 2 * votesOf(land, way, bits) > all) {
                    best = bits;
                }
            }
            return best;
        }

        private static int everyone(Land land) {
            return (1 << land.people) - 1;
        }

        private static int owning(Land land, int way) {
            int bits = 0;
            for (int p = 0; p < land.people; p++) {
                if (land.wealth(p, way) > 0) {
                    bits |= 1 << p;
                }
            }
            return bits;
        }

        private static int votesOf(Land land, int way, int peopleBits) {
            int votes = 0;
            for (int p = 0; p < land.people; p++) {
                if (Rows.hasBit(peopleBits, p)) {
                    votes += land.wealth(p, way);
                }
            }
            return votes;
        }
    }

    /** THIEF and SENTRY; a pair is 2 if the one steals, and 1 if the other one watches. */
    private static final class Theft {
        private static final int PAIRS = 4;

        static int pay(int worth, boolean steals, boolean watches, boolean ofSentry) {
            if (steals) {
                if (watches) {
                    return ofSentry ? 2 : -3;
                }
                return ofSentry ? -worth : worth;
            }
            return watches && ofSentry ? -1 : 0;
        }

        static int countRests(int worth) {
            int found = 0;
            for (int pair = 0; pair < PAIRS; pair++) {
                if (isRest(worth, pair)) {
                    found++;
                }
            }
            return found;
        }

        static int firstRest(int worth) {
            for (int pair = 0; pair < PAIRS; pair++) {
                if (isRest(worth, pair)) {
                    return 10 * (pair >> 1) + (pair & 1);
                }
            }
            return CANNOT_BE;
        }

        private static boolean isRest(int worth, int pair) {
            boolean steals = pair >= 2;
            boolean watches = (pair & 1) == 1;
            return pay(worth, !steals, watches, false) <= pay(worth, steals, watches, false)
                    && pay(worth, steals, !watches, true) <= pay(worth, steals, watches, true);
        }
    }

    /** GUSTS by chance: each gate's hook for itself, in hundredths. */
    private static final class Chance {
        static void reckonHolding(int falling, int years, Ratio ratio) {
            long upper = 1;
            long lower = 1;
            for (int year = 0; year < years; year++) {
                upper *= 100 - falling;
                lower *= 100;
            }
            ratio.set(upper, lower);
        }

        static void reckonMean(Land land, int way, int p, Ratio ratio) {
            long hundredths = 0;
            for (int g = 0; g < land.gates; g++) {
                int falling = land.fallingIn(way, g);
                int fallen = Ways.with(way, g, UNHUNG);
                hundredths += (100 - falling) * land.shareIn(way, g, p);
                hundredths += falling * land.shareIn(fallen, g, p);
            }
            ratio.set(hundredths, 100);
        }

        static void reckonKeeping(Land land, int way, int p, int much, Ratio ratio) {
            long upper = 0;
            long lower = 1;
            for (int g = 0; g < land.gates; g++) {
                lower *= 100;
            }
            for (int bits = 0; bits < 1 << land.gates; bits++) {
                long likely = likelihood(land, way, bits);
                if (likely > 0 && land.wealth(p, wayWithout(way, bits)) >= much) {
                    upper += likely;
                }
            }
            ratio.set(upper, lower);
        }

        /** That just the hooks at these gates fall; a gate whose hook can't counts as one that stays. */
        private static long likelihood(Land land, int way, int gateBits) {
            long likely = 1;
            for (int g = 0; g < land.gates; g++) {
                int falling = land.fallingIn(way, g);
                likely *= Rows.hasBit(gateBits, g) ? falling : 100 - falling;
            }
            return likely;
        }

        private static int wayWithout(int way, int gateBits) {
            int left = way;
            for (int g = 0; g < MOST_GATES; g++) {
                if (Rows.hasBit(gateBits, g)) {
                    left = Ways.with(left, g, UNHUNG);
                }
            }
            return left;
        }
    }

    /** GUSTS by a SEED, year by year. */
    private static final class Gale {
        int way;
        int seed;
        int fallen;

        void begin(int fromWay, int fromSeed) {
            way = fromWay;
            seed = fromSeed;
        }

        /** A hook that can fall takes a DRAW even where none ever falls. */
        void blow(Land land) {
            fallen = 0;
            for (int g = 0; g < land.gates; g++) {
                if (!land.isGuarded(g) && Ways.hungAt(way, g) != UNHUNG) {
                    seed = (75 * seed + 74) % SEED_MODULUS;
                    if (seed % 100 < land.fallingIn(way, g)) {
                        way = Ways.with(way, g, UNHUNG);
                        fallen++;
                    }
                }
            }
        }
    }
}
