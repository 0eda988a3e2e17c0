import java.util.NoSuchElementException;

/**
 * A captain who may land once in so many years: the oath told as a text, the women, harbours,
 * letters and hands that it names, what may be asked of them, and the acts from landing to landing.
 */
public final class SworeCaptain {
    public static final int NONE = -1;

    /** Answered where a call is allowed but what it asks for isn't there. */
    private static final int NOBODY = -2;
    private static final int NO_AGE = -1000;
    private static final int NO_GAIN = -100;

    private static final int FINE = 0;
    private static final int NO_SUCH = 1;
    private static final int BAD_NUMBER = 2;
    private static final int NO_ROOM = 3;
    private static final int FAULTY = 4;
    private static final int NOT_SO = 5;
    private static final int THERE_IS_NONE = 6;

    private static final int FORM = 1;
    private static final int UNTOLD = 2;
    private static final int AGAIN = 3;
    private static final int BOUNDS = 4;
    private static final int MANY = 5;
    private static final int LACKS = 6;

    /** Sorts of LINE, in the order in which size() counts them from 2 on. */
    private static final int HARBOURS = 0;
    private static final int SEAS = 1;
    private static final int WOMEN = 2;
    private static final int RIVALS = 3;
    private static final int LETTERS = 4;
    private static final int HANDS = 5;
    private static final int NEARLY = 6;
    private static final int[] ROOM = {6, 10, 8, 8, 6, 5, 4};

    /** KINDS but plain, which is 0. */
    private static final int PROUD = 1;
    private static final int SOLD = 2;
    private static final int HALF = 3;

    private static final int TAPE_ROOM = 900;
    private static final int LAST_LANDING = 30;
    private static final int LAST_SEED = 65536;
    private static final int LEAST_YEARS = 5;
    private static final int MOST_YEARS = 9;
    private static final int LONGEST_ROUTE = 3;
    private static final int LONGEST_POST = 5;
    private static final int LANDINGS_OF_LIVES = 3;

    private final Tape tape = new Tape();
    private final Reader reader = new Reader(tape.bytes);
    private Oath oath = new Oath();
    private final Moment now = new Moment();
    private final Past past = new Past();
    private final Route course = new Route();
    private final Post post = new Post();
    private final Crew crew = new Crew();
    private final Guesses guesses = new Guesses();
    private final Life lived = new Life();
    private int trouble = FINE;
    private int fault = 0;
    private int place = 0;

    public SworeCaptain() {
    }

    // ---- the oath

    public int feed(int a, int b, int c, int d, int e) {
        if (!tape.hasRoom(20)) {
            return NONE;
        }
        tape.addFour(a);
        tape.addFour(b);
        tape.addFour(c);
        tape.addFour(d);
        tape.addFour(e);
        return tape.length;
    }

    public int oath(int n) {
        if (refused(ofNumber(n, 0, tape.length))) {
            return NONE;
        }
        fault = reader.read(n);
        tape.length = 0;
        if (fault != 0) {
            place = reader.start;
            trouble = FAULTY;
            return NONE;
        }
        Oath told = reader.draft;
        reader.draft = oath;
        oath = told;
        now.begin();
        past.forget();
        return oath.count[WOMEN];
    }

    public int fault() {
        return fault;
    }

    public int where() {
        return trouble == FAULTY ? place : NONE;
    }

    // ---- harbours, women

    public int harbour(int h, int what) {
        if (refused(either(ofHarbour(h), ofIndex(what, 4)))) {
            return NONE;
        }
        switch (what) {
            case 0:
                return oath.news[h];
            case 1:
                return oath.worth[h];
            case 2:
                return oath.shores[h];
            default:
                return oath.womenIn(h);
        }
    }

    public int woman(int w, int what) {
        if (refused(either(ofWoman(w), ofIndex(what, 6)))) {
            return NONE;
        }
        switch (what) {
            case 0:
                return oath.kind[w];
            case 1:
                return oath.home[w];
            case 2:
                return oath.heart[w];
            case 3:
                return oath.born[w];
            case 4:
                return oath.rivalsOf(w);
            default:
                return now.hasTried(w) ? 1 : 0;
        }
    }

    public int age(int w, int landing) {
        if (refused(either(ofWoman(w), ofLanding(landing)))) {
            return NO_AGE;
        }
        return landing * oath.years - oath.born[w];
    }

    public int love(int w, int landing) {
        if (refused(either(ofWoman(w), ofLanding(landing)))) {
            return NONE;
        }
        return oath.loveAt(w, landing);
    }

    public long isTrue(int w, int landing, boolean lower) {
        if (refused(either(ofWoman(w), ofLanding(landing)))) {
            return NONE;
        }
        return inLowestTerms(oath.overTrial(oath.loveAt(w, landing)), oath.overTrial(100), lower);
    }

    public int bestLanding(int w) {
        if (refused(ofWoman(w))) {
            return NONE;
        }
        int best = NOBODY;
        int most = 0;
        for (int landing = 0; landing <= LAST_LANDING; landing++) {
            int love = oath.loveAt(w, landing);
            if (love > most) {
                most = love;
                best = landing;
            }
        }
        return best;
    }

    public int ofAge(int w) {
        if (refused(ofWoman(w))) {
            return NONE;
        }
        int bits = 0;
        for (int landing = 0; landing <= LAST_LANDING; landing++) {
            if (oath.isOfAge(w, landing * oath.years)) {
                bits |= 1 << landing;
            }
        }
        return bits;
    }

    public int alone(int w, int landing) {
        if (refused(either(ofWoman(w), ofLanding(landing)))) {
            return NONE;
        }
        return oath.unrivalledIn(w, landing * oath.years);
    }

    public int present(int landing) {
        if (refused(either(ofOath(), ofLanding(landing)))) {
            return NONE;
        }
        int bits = 0;
        for (int w = 0; w < oath.count[WOMEN]; w++) {
            if (oath.loveAt(w, landing) > 0) {
                bits |= 1 << w;
            }
        }
        return bits;
    }

    public int belle(int h, int landing) {
        if (refused(either(ofHarbour(h), ofLanding(landing)))) {
            return NONE;
        }
        return oath.dearest(1 << h, 0, landing);
    }

    public int sevens(int h, int g) {
        if (refused(either(ofHarbour(h), ofHarbour(g)))) {
            return NONE;
        }
        return oath.landingsApart(h, g);
    }

    public int byYears(int w, int landing, int years) {
        if (refused(either(ofWoman(w), either(ofLanding(landing), ofNumber(years, LEAST_YEARS, MOST_YEARS))))) {
            return NONE;
        }
        return oath.loveIn(w, landing * years);
    }

    public int bestYears(int landing) {
        if (refused(either(ofOath(), ofLanding(landing)))) {
            return NONE;
        }
        int best = LEAST_YEARS;
        int most = -1;
        for (int years = LEAST_YEARS; years <= MOST_YEARS; years++) {
            int sum = oath.loveOfAllIn(landing * years);
            if (sum > most) {
                most = sum;
                best = years;
            }
        }
        return best;
    }

    // ---- where to land

    public long route(int n, boolean lower) {
        if (refused(ofPlan(n, 1, LONGEST_ROUTE))) {
            return NONE;
        }
        course.seek(oath, now, n);
        return inLowestTerms(course.anyOfBest(), course.wholeOfRow(), lower);
    }

    public long mean(int n, boolean lower) {
        if (refused(ofPlan(n, 1, LONGEST_ROUTE))) {
            return NONE;
        }
        course.seek(oath, now, n);
        return inLowestTerms(course.sumOfBest(), oath.overTrial(100), lower);
    }

    public int routeAt(int n, int i) {
        if (refused(ofPlan(n, 1, LONGEST_ROUTE))) {
            return NONE;
        }
        course.seek(oath, now, n);
        if (refused(either(course.found == 0 ? THERE_IS_NONE : FINE, ofIndex(i, n)))) {
            return NONE;
        }
        return course.best[i];
    }

    public int routes(int n) {
        if (refused(ofPlan(n, 1, LONGEST_ROUTE))) {
            return NONE;
        }
        course.seek(oath, now, n);
        return course.found;
    }

    public int letters(int n) {
        if (refused(ofPlan(n, 0, LONGEST_POST))) {
            return NONE;
        }
        post.seek(oath, now, n);
        return post.most;
    }

    public int lettersAt(int n, int i) {
        if (refused(either(ofPlan(n, 0, LONGEST_POST), ofIndex(i, n)))) {
            return NONE;
        }
        post.seek(oath, now, n);
        return post.best[i];
    }

    public int lost() {
        if (refused(ofOath())) {
            return NONE;
        }
        int bits = 0;
        for (int l = 0; l < oath.count[LETTERS]; l++) {
            int first = soonestIn(oath.letterTo[l]);
            if (first == NOBODY || first > oath.letterBy[l]) {
                bits |= 1 << l;
            }
        }
        return bits & ~now.brought;
    }

    public int soonest(int h) {
        if (refused(ofHarbour(h))) {
            return NONE;
        }
        return soonestIn(h);
    }

    public int bells() {
        if (refused(ofOath())) {
            return NONE;
        }
        return oath.fewestBells();
    }

    // ---- bids, parts

    public int bid(int worth, int asks, int bids, boolean captain) {
        int wrong = either(ofNumber(worth, 0, 99), either(ofNumber(asks, 0, 9), ofNumber(bids, 0, 9)));
        if (refused(either(ofOath(), wrong))) {
            return NO_GAIN;
        }
        return captain ? Trade.ofCaptain(worth, asks, bids) : Trade.ofFather(asks, bids);
    }

    public int rests(int worth) {
        if (refused(either(ofOath(), ofNumber(worth, 0, 99)))) {
            return NONE;
        }
        int found = 0;
        for (int pair = 0; pair < 100; pair++) {
            if (Trade.isRest(worth, pair / 10, pair % 10)) {
                found++;
            }
        }
        return found;
    }

    public int rest(int worth) {
        if (refused(either(ofOath(), ofNumber(worth, 0, 99)))) {
            return NONE;
        }
        for (int pair = 0; pair < 100; pair++) {
            if (Trade.isRest(worth, pair / 10, pair % 10)) {
                return pair;
            }
        }
        return NOBODY;
    }

    public int part(int hand, int much, int landing) {
        if (refused(either(ofHand(hand), either(ofNumber(much, 0, 999), ofLanding(landing))))) {
            return NONE;
        }
        crew.divide(oath, much, landing * oath.years);
        return crew.got[hand];
    }

    public int service(int hand, int landing) {
        if (refused(either(ofHand(hand), ofLanding(landing)))) {
            return NONE;
        }
        return oath.servedIn(hand, landing * oath.years);
    }

    public int bestHand(int much, int landing) {
        if (refused(either(ofOath(), either(ofNumber(much, 0, 999), ofLanding(landing))))) {
            return NONE;
        }
        crew.divide(oath, much, landing * oath.years);
        int best = NOBODY;
        int most = 0;
        for (int hand = 0; hand < oath.count[HANDS]; hand++) {
            if (crew.got[hand] > most) {
                most = crew.got[hand];
                best = hand;
            }
        }
        return best;
    }

    // ---- nearly

    public int rows() {
        if (refused(ofNearly())) {
            return NONE;
        }
        guesses.seek(oath);
        return guesses.found;
    }

    public int could(int k) {
        if (refused(ofIndex(k, oath.count[NEARLY]))) {
            return NONE;
        }
        guesses.seek(oath);
        return guesses.possible(k);
    }

    public int surely(int k) {
        if (refused(ofIndex(k, oath.count[NEARLY]))) {
            return NONE;
        }
        guesses.seek(oath);
        return guesses.certain(k);
    }

    public int firstOf(int k) {
        if (refused(ofIndex(k, oath.count[NEARLY]))) {
            return NONE;
        }
        guesses.seek(oath);
        return guesses.found == 0 ? NOBODY : guesses.first[k];
    }

    public int ask() {
        if (refused(ofNearly())) {
            return NONE;
        }
        guesses.seek(oath);
        return guesses.found == 0 ? NOBODY : guesses.bestQuestion();
    }

    public int askLeaves() {
        if (refused(ofNearly())) {
            return NONE;
        }
        guesses.seek(oath);
        return guesses.found == 0 ? NOBODY : guesses.leftAtMost(guesses.bestQuestion());
    }

    public int judge() {
        if (refused(ofOath())) {
            return NONE;
        }
        for (int k = 0; k < oath.count[NEARLY]; k++) {
            if (oath.womenFitting(k) == 0) {
                return k;
            }
        }
        return NOBODY;
    }

    // ---- lives

    public int life(int seed, int n) {
        if (refused(ofLife(seed, n, 0, 20))) {
            return NONE;
        }
        lived.live(oath, now, seed, n);
        return lived.freedAfter;
    }

    public int lifeBy(int seed, int n) {
        if (refused(ofLife(seed, n, 0, 20))) {
            return NONE;
        }
        lived.live(oath, now, seed, n);
        return lived.here.freedBy;
    }

    public int lives(int seed, int n) {
        if (refused(ofLife(seed, n, 1, 30))) {
            return NONE;
        }
        int freed = 0;
        int going = seed;
        for (int i = 0; i < n; i++) {
            lived.live(oath, now, going, LANDINGS_OF_LIVES);
            going = lived.here.seed;
            if (lived.here.isFreed()) {
                freed++;
            }
        }
        return freed;
    }

    // ---- acts

    public int sail(int h) {
        if (refused(ofSailing(h))) {
            return NONE;
        }
        past.keep(now);
        now.land(oath, h);
        return now.landing;
    }

    public int court(int w) {
        if (refused(ofCourting(w))) {
            return NONE;
        }
        past.keep(now);
        now.tryWoman(oath, w);
        return now.isFreed() ? 1 : 0;
    }

    public boolean seed(int v) {
        if (refused(either(ofOath(), ofNumber(v, 0, LAST_SEED)))) {
            return false;
        }
        now.seed = v;
        return true;
    }

    public boolean undo() {
        if (refused(past.kept == 0 ? THERE_IS_NONE : FINE)) {
            return false;
        }
        past.takeBack(now);
        return true;
    }

    public int image() {
        if (refused(either(ofOath(), past.hasRoomForImage() ? FINE : NO_ROOM))) {
            return NONE;
        }
        return past.keepImage(now);
    }

    public boolean back(int image) {
        if (refused(ofIndex(image, past.images))) {
            return false;
        }
        past.goBack(image, now);
        return true;
    }

    // ---- what is told

    public int led(int i) throws NoSuchElementException {
        int letter = i < 0 ? NOBODY : now.broughtAt(i);
        if (letter == NOBODY) {
            throw new NoSuchElementException("no such letter was brought");
        }
        return letter;
    }

    public int size(int what) {
        if (what >= 2 && what <= 8) {
            return oath.count[what - 2];
        }
        switch (what) {
            case 0:
                return oath.years;
            case 1:
                return oath.trial;
            case 9:
                return now.landing;
            case 10:
                return now.harbour;
            case 11:
                // Without an OATH there is no captain of whom NOBODY could be told.
                return oath.isTold() ? now.freedBy : 0;
            case 12:
                return now.seed;
            case 13:
                return past.kept;
            case 14:
                return past.images;
            case 15:
                return tape.length;
            default:
                return NONE;
        }
    }

    public int trouble() {
        return trouble;
    }

    // ---- what a call is refused by: each answers a number of TROUBLE

    private boolean refused(int number) {
        trouble = number;
        return number != FINE;
    }

    /** The document names refusals in their order: the first that holds is the one told. */
    private static int either(int first, int second) {
        return first != FINE ? first : second;
    }

    private static int ofNumber(int value, int least, int most) {
        return value >= least && value <= most ? FINE : BAD_NUMBER;
    }

    private static int ofIndex(int value, int many) {
        return value >= 0 && value < many ? FINE : NO_SUCH;
    }

    private int ofOath() {
        return oath.isTold() ? FINE : NO_SUCH;
    }

    private int ofHarbour(int h) {
        return ofIndex(h, oath.count[HARBOURS]);
    }

    private int ofWoman(int w) {
        return ofIndex(w, oath.count[WOMEN]);
    }

    private int ofHand(int hand) {
        return ofIndex(hand, oath.count[HANDS]);
    }

    private int ofLanding(int landing) {
        return ofNumber(landing, 0, LAST_LANDING);
    }

    private int ofFreedom() {
        return now.isFreed() ? NOT_SO : FINE;
    }

    private int ofPlan(int n, int least, int most) {
        return either(ofOath(), either(ofNumber(n, least, most), ofFreedom()));
    }

    private int ofLife(int seed, int n, int least, int most) {
        return either(ofOath(), either(ofNumber(seed, 0, LAST_SEED), either(ofNumber(n, least, most), ofFreedom())));
    }

    private int ofNearly() {
        return either(ofOath(), oath.count[NEARLY] == 0 ? THERE_IS_NONE : FINE);
    }

    private int ofSailing(int h) {
        if (ofHarbour(h) != FINE) {
            return NO_SUCH;
        }
        if (now.isFreed() || !oath.canReach(now.harbour, h)) {
            return NOT_SO;
        }
        return now.landing >= LAST_LANDING ? NO_ROOM : FINE;
    }

    private int ofCourting(int w) {
        if (ofWoman(w) != FINE) {
            return NO_SUCH;
        }
        boolean can = !now.isFreed() && oath.home[w] == now.harbour && !now.hasTried(w);
        return can ? FINE : NOT_SO;
    }

    // ---- helpers of the face

    /** Where he is NOW counts only by landing there again, so the soonest is the next landing. */
    private int soonestIn(int h) {
        int apart = oath.landingsApart(now.harbour, h);
        if (now.isFreed() || apart == NOBODY) {
            return NOBODY;
        }
        return now.landing + Math.max(1, apart);
    }

    private static long inLowestTerms(long upper, long lower, boolean wantLower) {
        long common = lower;
        long other = upper;
        // Euclid's steps on numbers below 2^63 are fewer than 100.
        for (int i = 0; i < 100 && other != 0; i++) {
            long left = common % other;
            common = other;
            other = left;
        }
        long wanted = wantLower ? lower : upper;
        return common == 0 ? wanted : wanted / common;
    }

    /** THE TAPE. */
    private static final class Tape {
        final byte[] bytes = new byte[TAPE_ROOM];
        int length = 0;

        boolean hasRoom(int more) {
            return length + more <= TAPE_ROOM;
        }

        void addFour(int number) {
            if (!hasRoom(4)) {
                return;
            }
            for (int shift = 24; shift >= 0; shift -= 8) {
                bytes[length] = (byte) (number >>> shift);
                length++;
            }
        }
    }

    /** Reads a text into an Oath, from the left, and stops at the first FAULT. */
    private static final class Reader {
        private static final int END = 0;
        private static final int WORD = 1;
        private static final int WHOLE = 2;
        private static final int PARTING = 3;
        private static final int NO_TOKEN = 4;

        /** The first seven stand in the order of the sorts of LINE, and with the eighth are no NAMES. */
        private static final String GRAMMAR =
            "harbour sea woman rival letter hand nearly oath plain proud sold half years trial news worth in heart born odds by joined part landing age ";
        private static final int OATH = 7;
        private static final int FIRST_KIND = 8;
        private static final int LAST_KIND = 11;
        private static final int YEARS = 12;
        private static final int TRIAL = 13;
        private static final int NEWS = 14;
        private static final int WORTH = 15;
        private static final int IN = 16;
        private static final int HEART = 17;
        private static final int BORN = 18;
        private static final int ODDS = 19;
        private static final int BY = 20;
        private static final int JOINED = 21;
        private static final int PART = 22;
        private static final int LANDING = 23;
        private static final int AGE = 24;
        private static final int KEYWORDS = 25;

        private static final int MOST_NAMES = 19;
        private static final int LONGEST_WORD = 8;
        private static final int LONGEST_WHOLE = 3;

        /** Where the text is read to; on a faultless one the owner takes it and leaves another here. */
        Oath draft = new Oath();
        /** Place of the token that is looked at, and so of a FAULT. */
        int start;
        private final byte[] text;
        private final long[] keywords = new long[KEYWORDS];
        private final long[] names = new long[MOST_NAMES];
        private final int[] sorts = new int[MOST_NAMES];
        private final int[] numbers = new int[MOST_NAMES];
        private int named;
        private int end;
        private int at;
        private int fault;
        private int token;
        private long letters;
        private int keyword;
        private int number;
        /** What the latest WHOLE or used NAME stood for. */
        private int value;

        Reader(byte[] bytes) {
            text = bytes;
            int k = 0;
            long word = 0;
            for (int i = 0; i < GRAMMAR.length() && k < KEYWORDS; i++) {
                if (GRAMMAR.charAt(i) == ' ') {
                    keywords[k] = word;
                    word = 0;
                    k++;
                } else {
                    word = packed(word, GRAMMAR.charAt(i));
                }
            }
        }

        /** The FAULT of the first n bytes, or 0. */
        int read(int n) {
            end = Math.max(0, Math.min(n, text.length));
            at = 0;
            named = 0;
            fault = 0;
            draft.clear();
            advance();
            // Each LINE but the first has a byte of its own ahead of it, so the bound is never met.
            for (int lines = 0; lines <= TAPE_ROOM; lines++) {
                int sort = keyword;
                if (!readLine()) {
                    return fault;
                }
                if (sort >= 0 && sort < OATH) {
                    draft.count[sort]++;
                }
                if (token != PARTING) {
                    break;
                }
                advance();
            }
            if (token != END) {
                return FORM;
            }
            return draft.hasHarbourAndWoman() ? 0 : LACKS;
        }

        private boolean readLine() {
            int sort = keyword;
            if (sort < 0 || sort > OATH) {
                return fails(FORM);
            }
            if (sort == OATH) {
                return readOath();
            }
            if (!draft.isTold()) {
                return fails(LACKS);
            }
            int row = draft.count[sort];
            if (row >= ROOM[sort]) {
                return fails(MANY);
            }
            advance();
            switch (sort) {
                case HARBOURS:
                    return readHarbour(row);
                case SEAS:
                    return readSea();
                case WOMEN:
                    return readWoman(row);
                case RIVALS:
                    return readRival(row);
                case LETTERS:
                    return readLetter(row);
                case HANDS:
                    return readHand(row);
                default:
                    return readNearly(row);
            }
        }

        private boolean readOath() {
            if (draft.isTold()) {
                return fails(AGAIN);
            }
            advance();
            if (!takeNumber(YEARS, LEAST_YEARS, MOST_YEARS)) {
                return false;
            }
            int years = value;
            if (!takeNumber(TRIAL, 1, 3)) {
                return false;
            }
            draft.years = years;
            draft.trial = value;
            return true;
        }

        private boolean readHarbour(int row) {
            if (!takeNewName(HARBOURS, row) || !takeNumber(NEWS, 0, 100)) {
                return false;
            }
            draft.news[row] = value;
            if (!takeNumber(WORTH, 0, 99)) {
                return false;
            }
            draft.worth[row] = value;
            return true;
        }

        private boolean readSea() {
            if (!findName(HARBOURS)) {
                return false;
            }
            int from = value;
            advance();
            if (!findName(HARBOURS)) {
                return false;
            }
            int to = value;
            if (draft.canReach(from, to)) {
                return fails(AGAIN);
            }
            draft.shores[from] |= 1 << to;
            draft.shores[to] |= 1 << from;
            advance();
            return true;
        }

        private boolean readWoman(int row) {
            if (!takeNewName(WOMEN, row)) {
                return false;
            }
            if (keyword < FIRST_KIND || keyword > LAST_KIND) {
                return fails(FORM);
            }
            draft.kind[row] = keyword - FIRST_KIND;
            advance();
            if (keyword != IN) {
                return fails(FORM);
            }
            advance();
            if (!findName(HARBOURS)) {
                return false;
            }
            draft.home[row] = value;
            advance();
            if (!takeNumber(HEART, 0, 99)) {
                return false;
            }
            draft.heart[row] = value;
            if (!takeNumber(BORN, 0, 60)) {
                return false;
            }
            draft.born[row] = value;
            return true;
        }

        private boolean readRival(int row) {
            if (!findName(WOMEN)) {
                return false;
            }
            draft.rivalOf[row] = value;
            advance();
            if (!takeNumber(ODDS, 0, 99)) {
                return false;
            }
            draft.odds[row] = value;
            return true;
        }

        private boolean readLetter(int row) {
            if (!findName(HARBOURS)) {
                return false;
            }
            draft.letterTo[row] = value;
            advance();
            if (!takeNumber(BY, 1, 5)) {
                return false;
            }
            draft.letterBy[row] = value;
            return true;
        }

        private boolean readHand(int row) {
            if (!takeNewName(HANDS, row) || !takeNumber(JOINED, 0, 60)) {
                return false;
            }
            draft.joined[row] = value;
            if (!takeNumber(PART, 1, 9)) {
                return false;
            }
            draft.share[row] = value;
            return true;
        }

        private boolean readNearly(int row) {
            if (!takeNumber(LANDING, 0, 8)) {
                return false;
            }
            draft.nearLanding[row] = value;
            if (!takeNumber(AGE, 16, 40)) {
                return false;
            }
            draft.nearAge[row] = value;
            return true;
        }

        private boolean fails(int with) {
            fault = with;
            return false;
        }

        private boolean takeNumber(int word, int least, int most) {
            if (keyword != word) {
                return fails(FORM);
            }
            advance();
            if (token != WHOLE) {
                return fails(FORM);
            }
            if (number < least || number > most) {
                return fails(BOUNDS);
            }
            value = number;
            advance();
            return true;
        }

        private boolean takeNewName(int sort, int row) {
            if (!isName()) {
                return fails(FORM);
            }
            if (placeOfName() != NONE) {
                return fails(AGAIN);
            }
            // There is a place for each harbour, woman and hand that there is room for.
            if (named < MOST_NAMES) {
                names[named] = letters;
                sorts[named] = sort;
                numbers[named] = row;
                named++;
            }
            advance();
            return true;
        }

        /** Leaves the NAME as the token, for what else may be wrong with it. */
        private boolean findName(int sort) {
            if (!isName()) {
                return fails(FORM);
            }
            int known = placeOfName();
            if (known == NONE || sorts[known] != sort) {
                return fails(UNTOLD);
            }
            value = numbers[known];
            return true;
        }

        private boolean isName() {
            return token == WORD && (keyword == NONE || keyword > OATH);
        }

        private int placeOfName() {
            for (int i = 0; i < named; i++) {
                if (names[i] == letters) {
                    return i;
                }
            }
            return NONE;
        }

        private void advance() {
            while (at < end && text[at] == ' ') {
                at++;
            }
            start = at;
            keyword = NONE;
            if (at >= end) {
                token = END;
            } else if (isLetter(text[at])) {
                scanWord();
            } else if (isDigit(text[at])) {
                scanWhole();
            } else {
                token = text[at] == ';' ? PARTING : NO_TOKEN;
                at++;
            }
        }

        private void scanWord() {
            letters = 0;
            while (at < end && isLetter(text[at])) {
                letters = packed(letters, text[at]);
                at++;
            }
            if (at - start > LONGEST_WORD) {
                token = NO_TOKEN;
                return;
            }
            token = WORD;
            for (int k = 0; k < KEYWORDS; k++) {
                if (keywords[k] == letters) {
                    keyword = k;
                }
            }
        }

        private void scanWhole() {
            number = 0;
            while (at < end && isDigit(text[at])) {
                number = number * 10 + (text[at] - '0');
                at++;
            }
            token = at - start <= LONGEST_WHOLE ? WHOLE : NO_TOKEN;
        }

        /** Five bits a letter: eight go into a long, and no two WORDS become the same. */
        private static long packed(long ahead, int letter) {
            return ahead * 32 + (letter - 'a' + 1);
        }

        private static boolean isLetter(int sign) {
            return sign >= 'a' && sign <= 'z';
        }

        private static boolean isDigit(int sign) {
            return sign >= '0' && sign <= '9';
        }
    }

    /** What an OATH tells, and what follows from it alone. */
    private static final class Oath {
        int years;
        int trial;
        /** How many of each sort of LINE. */
        final int[] count = new int[ROOM.length];
        final int[] news = new int[ROOM[HARBOURS]];
        final int[] worth = new int[ROOM[HARBOURS]];
        final int[] shores = new int[ROOM[HARBOURS]];
        final int[] kind = new int[ROOM[WOMEN]];
        final int[] home = new int[ROOM[WOMEN]];
        final int[] heart = new int[ROOM[WOMEN]];
        final int[] born = new int[ROOM[WOMEN]];
        final int[] rivalOf = new int[ROOM[RIVALS]];
        final int[] odds = new int[ROOM[RIVALS]];
        final int[] letterTo = new int[ROOM[LETTERS]];
        final int[] letterBy = new int[ROOM[LETTERS]];
        final int[] joined = new int[ROOM[HANDS]];
        final int[] share = new int[ROOM[HANDS]];
        final int[] nearLanding = new int[ROOM[NEARLY]];
        final int[] nearAge = new int[ROOM[NEARLY]];

        void clear() {
            years = 0;
            trial = 0;
            for (int i = 0; i < count.length; i++) {
                count[i] = 0;
            }
            for (int i = 0; i < shores.length; i++) {
                shores[i] = 0;
            }
        }

        boolean isTold() {
            return years > 0;
        }

        boolean hasHarbourAndWoman() {
            return count[HARBOURS] > 0 && count[WOMEN] > 0;
        }

        // ---- harbours

        /** Harbours, as bits, in which he can be at the next landing. */
        int reachOf(int h) {
            return h < 0 || h >= shores.length ? 0 : shores[h] | 1 << h;
        }

        boolean canReach(int from, int to) {
            return (reachOf(from) >> to & 1) != 0;
        }

        int reachOfAll(int harbours) {
            int bits = 0;
            for (int h = 0; h < count[HARBOURS]; h++) {
                if ((harbours >> h & 1) != 0) {
                    bits |= reachOf(h);
                }
            }
            return bits;
        }

        int landingsApart(int from, int to) {
            int reached = 1 << from;
            for (int landings = 0; landings < count[HARBOURS]; landings++) {
                if ((reached >> to & 1) != 0) {
                    return landings;
                }
                reached = reachOfAll(reached);
            }
            return NOBODY;
        }

        int fewestBells() {
            int all = (1 << count[HARBOURS]) - 1;
            int best = all;
            for (int bits = 0; bits < all; bits++) {
                if (Integer.bitCount(bits) < Integer.bitCount(best) && reachOfAll(bits) == all) {
                    best = bits;
                }
            }
            return best;
        }

        int womenIn(int h) {
            int bits = 0;
            for (int w = 0; w < count[WOMEN]; w++) {
                if (home[w] == h) {
                    bits |= 1 << w;
                }
            }
            return bits;
        }

        /** Letters to a harbour, as bits, whose landings told aren't over at a landing. */
        int lettersDue(int h, int landing) {
            int bits = 0;
            for (int l = 0; l < count[LETTERS]; l++) {
                if (letterTo[l] == h && letterBy[l] >= landing) {
                    bits |= 1 << l;
                }
            }
            return bits;
        }

        // ---- women

        int rivalsOf(int w) {
            int found = 0;
            for (int r = 0; r < count[RIVALS]; r++) {
                if (rivalOf[r] == w) {
                    found++;
                }
            }
            return found;
        }

        boolean isOfAge(int w, int year) {
            int age = year - born[w];
            return age >= 16 && age <= 40;
        }

        int unrivalledIn(int w, int year) {
            if (!isOfAge(w, year)) {
                return 0;
            }
            int asPlain = heart[w] * (200 - news[home[w]]) / 200;
            switch (kind[w]) {
                case PROUD:
                    return heart[w];
                case SOLD:
                    return Math.max(asPlain, worth[home[w]] / 2);
                case HALF:
                    return asPlain / 2;
                default:
                    return asPlain;
            }
        }

        int loveIn(int w, int year) {
            int love = unrivalledIn(w, year);
            for (int r = 0; r < count[RIVALS]; r++) {
                if (rivalOf[r] == w) {
                    love = love * (100 - odds[r]) / 100;
                }
            }
            return love;
        }

        int loveAt(int w, int landing) {
            return loveIn(w, landing * years);
        }

        int loveOfAllIn(int year) {
            int sum = 0;
            for (int w = 0; w < count[WOMEN]; w++) {
                sum += loveIn(w, year);
            }
            return sum;
        }

        /** The first woman of greatest LOVE in any of these harbours, but for those left out. */
        int dearest(int harbours, int leftOut, int landing) {
            int best = NOBODY;
            int most = 0;
            for (int w = 0; w < count[WOMEN]; w++) {
                if ((harbours >> home[w] & 1) == 0 || (leftOut >> w & 1) != 0) {
                    continue;
                }
                int love = loveIn(w, landing * years);
                if (love > most) {
                    most = love;
                    best = w;
                }
            }
            return best;
        }

        /** What so much in a hundred each day makes of the whole trial, out of what 100 makes. */
        long overTrial(int perDay) {
            long product = 1;
            for (int day = 0; day < trial; day++) {
                product *= perDay;
            }
            return product;
        }

        int womenFitting(int k) {
            int bits = 0;
            for (int w = 0; w < count[WOMEN]; w++) {
                if (nearLanding[k] * years - born[w] == nearAge[k]) {
                    bits |= 1 << w;
                }
            }
            return bits;
        }

        // ---- hands

        int servedIn(int hand, int year) {
            return share[hand] * Math.max(0, year - joined[hand]);
        }
    }

    /** All that ACTS change. */
    private static final class Moment {
        int landing = 0;
        int harbour = 0;
        int tried = 0;
        int brought = 0;
        int freedBy = NOBODY;
        int seed = 0;

        void begin() {
            landing = 0;
            harbour = 0;
            tried = 0;
            brought = 0;
            freedBy = NOBODY;
            seed = 0;
        }

        void copy(Moment other) {
            landing = other.landing;
            harbour = other.harbour;
            tried = other.tried;
            brought = other.brought;
            freedBy = other.freedBy;
            seed = other.seed;
        }

        boolean isFreed() {
            return freedBy != NOBODY;
        }

        boolean hasTried(int w) {
            return (tried >> w & 1) != 0;
        }

        void land(Oath oath, int h) {
            landing++;
            harbour = h;
            brought |= oath.lettersDue(h, landing);
        }

        void tryWoman(Oath oath, int w) {
            int love = oath.loveAt(w, landing);
            tried |= 1 << w;
            for (int day = 0; day < oath.trial; day++) {
                if (nextDraw() % 100 >= love) {
                    return;
                }
            }
            freedBy = w;
        }

        private int nextDraw() {
            seed = (75 * seed + 74) % (LAST_SEED + 1);
            return seed;
        }

        /** The i-th letter that was brought, by numbers. */
        int broughtAt(int i) {
            int ahead = i;
            for (int l = 0; l < ROOM[LETTERS]; l++) {
                if ((brought >> l & 1) == 0) {
                    continue;
                }
                if (ahead == 0) {
                    return l;
                }
                ahead--;
            }
            return NOBODY;
        }
    }

    /** What can be undone, and the IMAGES. */
    private static final class Past {
        private static final int ACTS_KEPT = 16;
        private static final int MOST_IMAGES = 3;

        private final Moment[] ahead = new Moment[ACTS_KEPT];
        private final Moment[] pictures = new Moment[MOST_IMAGES];
        int kept = 0;
        int images = 0;

        Past() {
            for (int i = 0; i < ACTS_KEPT; i++) {
                ahead[i] = new Moment();
            }
            for (int i = 0; i < MOST_IMAGES; i++) {
                pictures[i] = new Moment();
            }
        }

        void forget() {
            kept = 0;
            images = 0;
        }

        void keep(Moment now) {
            if (kept == ACTS_KEPT) {
                dropOldest();
            }
            ahead[kept].copy(now);
            kept++;
        }

        private void dropOldest() {
            Moment oldest = ahead[0];
            for (int i = 1; i < ACTS_KEPT; i++) {
                ahead[i - 1] = ahead[i];
            }
            ahead[ACTS_KEPT - 1] = oldest;
            kept = ACTS_KEPT - 1;
        }

        void takeBack(Moment now) {
            if (kept > 0) {
                kept--;
                now.copy(ahead[kept]);
            }
        }

        boolean hasRoomForImage() {
            return images < MOST_IMAGES;
        }

        int keepImage(Moment now) {
            if (!hasRoomForImage()) {
                return NONE;
            }
            pictures[images].copy(now);
            images++;
            return images - 1;
        }

        void goBack(int picture, Moment now) {
            if (picture >= 0 && picture < images) {
                now.copy(pictures[picture]);
                kept = 0;
            }
        }
    }

    /** ROUTE: all rows of women, tried in their order, so that the first of like ones stays. */
    private static final class Route {
        final int[] best = new int[LONGEST_ROUTE];
        int found;
        /** By the best row: how likely none is TRUE, out of wholeOfRow(). */
        private long leastMiss;
        private final int[] row = new int[LONGEST_ROUTE];
        /** Of each landing to come and woman: how likely she is TRUE, out of whole; 0 if she may not stand there. */
        private final long[][] chance = new long[LONGEST_ROUTE][ROOM[WOMEN]];
        private long whole;
        private int length;

        void seek(Oath oath, Moment now, int landings) {
            length = Math.min(landings, LONGEST_ROUTE);
            whole = oath.overTrial(100);
            found = 0;
            leastMiss = 0;
            for (int i = 0; i < length; i++) {
                for (int w = 0; w < oath.count[WOMEN]; w++) {
                    chance[i][w] = now.hasTried(w) ? 0 : oath.overTrial(oath.loveAt(w, now.landing + 1 + i));
                }
            }
            extend(oath, 0, 0, now.harbour, 1);
        }

        private void extend(Oath oath, int depth, int used, int harbour, long miss) {
            if (depth >= length) {
                settle(miss);
                return;
            }
            for (int w = 0; w < oath.count[WOMEN]; w++) {
                if (chance[depth][w] > 0 && (used >> w & 1) == 0 && oath.canReach(harbour, oath.home[w])) {
                    row[depth] = w;
                    extend(oath, depth + 1, used | 1 << w, oath.home[w], miss * (whole - chance[depth][w]));
                }
            }
        }

        private void settle(long miss) {
            if (found == 0 || miss < leastMiss) {
                leastMiss = miss;
                for (int i = 0; i < length; i++) {
                    best[i] = row[i];
                }
            }
            found++;
        }

        /** At most 100 by three days by three landings, 10 to the 18th: it goes into a long. */
        long wholeOfRow() {
            long product = 1;
            for (int i = 0; i < length; i++) {
                product *= whole;
            }
            return product;
        }

        long anyOfBest() {
            return found == 0 ? 0 : wholeOfRow() - leastMiss;
        }

        long sumOfBest() {
            long sum = 0;
            for (int i = 0; i < length && found > 0; i++) {
                sum += chance[i][best[i]];
            }
            return sum;
        }
    }

    /** LETTERS: all rows of harbours, tried in their order, so that the first of like ones stays. */
    private static final class Post {
        final int[] best = new int[LONGEST_POST];
        int most;
        private final int[] row = new int[LONGEST_POST];
        /** Letters, as bits, that come to a harbour at a landing to come. */
        private final int[][] due = new int[LONGEST_POST][ROOM[HARBOURS]];
        /** Letters, as bits, that can come to any harbour from a landing to come on. */
        private final int[] open = new int[LONGEST_POST];
        private int length;

        void seek(Oath oath, Moment now, int landings) {
            length = Math.min(landings, LONGEST_POST);
            most = -1;
            for (int i = 0; i < length; i++) {
                open[i] = 0;
                for (int h = 0; h < oath.count[HARBOURS]; h++) {
                    due[i][h] = oath.lettersDue(h, now.landing + 1 + i) & ~now.brought;
                    open[i] |= due[i][h];
                }
            }
            extend(oath, 0, now.harbour, 0);
        }

        private void extend(Oath oath, int depth, int harbour, int brought) {
            if (depth >= length) {
                settle(Integer.bitCount(brought));
                return;
            }
            // A row that can't bring more than the best one comes behind it: it needn't be gone through.
            if (Integer.bitCount(brought | open[depth]) <= most) {
                return;
            }
            for (int h = 0; h < oath.count[HARBOURS]; h++) {
                if (oath.canReach(harbour, h)) {
                    row[depth] = h;
                    extend(oath, depth + 1, h, brought | due[depth][h]);
                }
            }
        }

        private void settle(int many) {
            if (many > most) {
                most = many;
                for (int i = 0; i < length; i++) {
                    best[i] = row[i];
                }
            }
        }
    }

    /** What the father and the captain have by asking and bidding. */
    private static final class Trade {
        static int ofFather(int asks, int bids) {
            return bids >= asks ? bids : 0;
        }

        static int ofCaptain(int worth, int asks, int bids) {
            return bids >= asks ? worth - bids : 0;
        }

        static boolean isRest(int worth, int asks, int bids) {
            for (int other = 0; other <= 9; other++) {
                if (ofFather(other, bids) > ofFather(asks, bids)) {
                    return false;
                }
                if (ofCaptain(worth, asks, other) > ofCaptain(worth, asks, bids)) {
                    return false;
                }
            }
            return true;
        }
    }

    /** PARTS. */
    private static final class Crew {
        final int[] got = new int[ROOM[HANDS]];
        private final int[] rest = new int[ROOM[HANDS]];

        void divide(Oath oath, int much, int year) {
            int hands = oath.count[HANDS];
            int all = 0;
            for (int i = 0; i < hands; i++) {
                all += oath.servedIn(i, year);
                got[i] = 0;
            }
            if (all <= 0) {
                return;
            }
            int left = much;
            for (int i = 0; i < hands; i++) {
                int claim = much * oath.servedIn(i, year);
                got[i] = claim / all;
                rest[i] = claim % all;
                left -= got[i];
            }
            handOut(left, hands);
        }

        private void handOut(int left, int hands) {
            for (int one = 0; one < left && one < hands; one++) {
                int next = 0;
                for (int i = 1; i < hands; i++) {
                    if (rest[i] > rest[next]) {
                        next = i;
                    }
                }
                got[next]++;
                // Below every rest, so that nobody gets a second one.
                rest[next] = -1;
            }
        }
    }

    /** NEARLY: all rows, counted by who she was of each one told. */
    private static final class Guesses {
        private final int[] row = new int[ROOM[NEARLY]];
        final int[] first = new int[ROOM[NEARLY]];
        private final int[][] times = new int[ROOM[NEARLY]][ROOM[WOMEN]];
        int found;
        private int told;

        void seek(Oath oath) {
            told = Math.min(oath.count[NEARLY], row.length);
            found = 0;
            for (int k = 0; k < row.length; k++) {
                for (int w = 0; w < ROOM[WOMEN]; w++) {
                    times[k][w] = 0;
                }
            }
            if (told > 0) {
                extend(oath, 0, 0);
            }
        }

        private void extend(Oath oath, int k, int used) {
            if (k >= told) {
                settle();
                return;
            }
            int fitting = oath.womenFitting(k) & ~used;
            for (int w = 0; w < oath.count[WOMEN]; w++) {
                if ((fitting >> w & 1) != 0) {
                    row[k] = w;
                    extend(oath, k + 1, used | 1 << w);
                }
            }
        }

        private void settle() {
            for (int k = 0; k < told; k++) {
                if (found == 0) {
                    first[k] = row[k];
                }
                times[k][row[k]]++;
            }
            found++;
        }

        int possible(int k) {
            int bits = 0;
            for (int w = 0; w < ROOM[WOMEN]; w++) {
                if (times[k][w] > 0) {
                    bits |= 1 << w;
                }
            }
            return bits;
        }

        int certain(int k) {
            for (int w = 0; w < ROOM[WOMEN]; w++) {
                if (found > 0 && times[k][w] == found) {
                    return w;
                }
            }
            return NOBODY;
        }

        int leftAtMost(int k) {
            int most = 0;
            for (int w = 0; w < ROOM[WOMEN]; w++) {
                most = Math.max(most, times[k][w]);
            }
            return most;
        }

        int bestQuestion() {
            int best = 0;
            for (int k = 1; k < told; k++) {
                if (leftAtMost(k) < leftAtMost(best)) {
                    best = k;
                }
            }
            return best;
        }
    }

    /** A LIFE, lived on a copy of NOW. */
    private static final class Life {
        final Moment here = new Moment();
        /** In which of the landings to come he was FREED, from 1; 0 he wasn't. */
        int freedAfter = 0;

        void live(Oath oath, Moment now, int seed, int landings) {
            here.copy(now);
            here.seed = seed;
            freedAfter = 0;
            for (int i = 1; i <= landings && !here.isFreed(); i++) {
                liveLanding(oath);
                if (here.isFreed()) {
                    freedAfter = i;
                }
            }
        }

        private void liveLanding(Oath oath) {
            int w = oath.dearest(oath.reachOf(here.harbour), here.tried, here.landing + 1);
            if (w == NOBODY) {
                here.land(oath, here.harbour);
                return;
            }
            here.land(oath, oath.home[w]);
            here.tryWoman(oath, w);
        }
    }
}
