/**
 * A town's unredeemed promises, in the window: who buys them, to whom they are kept, what joy
 * that makes, and what may be asked of all this. The document ../shared/DOC.md says what each
 * call answers; words in capitals are its terms.
 *
 * All rows are made with the object and used again, so no call makes an object or an array.
 * Rows are reached through at(), put() and copyCells() alone, which look at the index first.
 */
public final class PledgeWindow {
    public static final int NONE = -1, BAD = -2, NO = -3, FULL = -4;

    /** What some calls answer where a number is not as told, since BAD would be mistaken. */
    private static final int BAD_AS_TEN = -10, BAD_STATUS = -1, NOT_SO_MANY = -5;

    private static final int PROMISES = 7, HEARERS = 4, BUYERS = 3, KINDS = 6;
    private static final int GOLD = 1, TIN = 2, CHILDS = 3, SHIP = 4, ORDINATION = 5;
    private static final int BRIDE = 1, MOTHER = 2, SHY = 3, DEAF = 4, KEEPER = 5;

    /** Where a PROMISE is: as of(p, 3) tells it. */
    private static final int IN_WINDOW = 0, HELD = 1, KEPT = 10;

    private static final int MOST_WORTH = 9, MOST_WANT = 9, MOST_PURSE = 999;
    private static final int MOST_DAYS = 99, LAST_DAY = 9999, MOST_AHEAD = 60, MOST_WHEN = 30;
    private static final int MOST_LAIN = 99, MOST_GOOD = 30, MOST_JOY = 20;
    private static final int MOST_BID = 9, MOST_ODDS = 10, MOST_SEED = 999999;
    private static final int MOST_TEXT = 150, MOST_BYTE = 127, MOST_UNDO = 8;
    private static final int MOST_TEXT_PURSE = 99;

    /** The three kinds of hints, numbered as forget() takes them, and how many fit. */
    private static final int SEEN = 0, NOTES = 1, MARKS = 2;
    private static final int MOST_SEEN = 5, MOST_NOTES = 6, MOST_MARKS = 6;
    private static final int LAST_TELL = 30, LAST_LOOK = 60, LAST_ASK = 30;

    private static final int COUNTS = 12;

    private final Shop now = new Shop();
    private final Shop imageZero = new Shop();
    private final Shop imageOne = new Shop();
    private final Reader reader = new Reader();
    /** The town of years(), which must leave the real one as it is. */
    private final Town trial = new Town();
    /** For one call: the JOY of each PROMISE to each HEARER, HEARER by HEARER; and each PRICE. */
    private final int[] gains = new int[HEARERS * PROMISES];
    private final int[] prices = new int[PROMISES];
    /** For one call: what each PROMISE or KIND would answer. */
    private final int[] answers = new int[PROMISES];
    private long above = 0;
    private long below = 1;
    private int bads = 0;
    private int noes = 0;
    private int fulls = 0;

    public PledgeWindow() {
    }

    // ---- rows and bits

    private static int at(int[] row, int i) {
        return row != null && i >= 0 && i < row.length ? row[i] : 0;
    }

    private static void put(int[] row, int i, int value) {
        if (row != null && i >= 0 && i < row.length) {
            row[i] = value;
        }
    }

    /** Copies n cells; does nothing where they would not fit. */
    private static void copyCells(int[] from, int start, int[] to, int place, int n) {
        if (from == null || to == null || n < 0 || start < 0 || place < 0) {
            return;
        }
        if (start <= from.length - n && place <= to.length - n) {
            System.arraycopy(from, start, to, place, n);
        }
    }

    private static void copyRow(int[] from, int[] to) {
        if (from != null) {
            copyCells(from, 0, to, 0, from.length);
        }
    }

    private static boolean between(int value, int least, int most) {
        return value >= least && value <= most;
    }

    private static boolean has(int bits, int i) {
        return (bits >> i & 1) == 1;
    }

    private static int without(int bits, int i) {
        return bits & ~(1 << i);
    }

    // ---- what was refused

    private int bad() {
        return bad(BAD);
    }

    private int bad(int answer) {
        bads++;
        return answer;
    }

    private int no() {
        noes++;
        return NO;
    }

    private int full() {
        fulls++;
        return FULL;
    }

    // ---- KINDS

    private static int goodOf(int kind, int worth, int lain) {
        int gold = worth + Math.min(5, lain / 10);
        int tin = Math.max(0, worth - lain / 5);
        switch (kind) {
            case GOLD:
                return gold;
            case TIN:
                return tin;
            case CHILDS:
                return Math.max(2, tin);
            case SHIP:
                return lain < 7 ? 0 : worth + 3;
            case ORDINATION:
                return Math.min(25, 2 * gold);
            default:
                return worth;
        }
    }

    private static int joyOf(int kind, int want, int good) {
        int plain = Math.max(0, 6 - Math.abs(good - want));
        int bride = good >= want ? plain + 2 : plain;
        int mother = Math.max(3, plain);
        switch (kind) {
            case BRIDE:
                return bride;
            case MOTHER:
                return mother;
            case SHY:
                // "cut up": a half left over counts as a whole one
                return (bride + 1) / 2;
            case DEAF:
                return good < 4 ? 0 : plain;
            case KEEPER:
                return 2 * mother;
            default:
                return plain;
        }
    }

    // ---- a town

    public int town() {
        int before = now.town.promises;
        now.empty();
        return before;
    }

    public int promise(int kind, int worth) {
        if (!between(kind, 0, KINDS - 1) || !between(worth, 1, MOST_WORTH)) {
            return bad();
        }
        if (now.town.promises >= PROMISES) {
            return full();
        }
        now.past.depth = 0;
        return now.town.addPromise(kind, worth);
    }

    public int hearer(int kind, int want) {
        if (!between(kind, 0, KINDS - 1) || !between(want, 1, MOST_WANT)) {
            return bad();
        }
        if (now.town.hearers >= HEARERS) {
            return full();
        }
        now.past.depth = 0;
        return now.town.addHearer(kind, want);
    }

    public int buyer(int purse) {
        if (!between(purse, 0, MOST_PURSE)) {
            return bad();
        }
        if (now.town.buyers >= BUYERS) {
            return full();
        }
        now.past.depth = 0;
        return now.town.addBuyer(purse);
    }

    public int type(int c) {
        if (!between(c, 0, MOST_BYTE)) {
            return bad();
        }
        if (reader.length >= MOST_TEXT) {
            return full();
        }
        put(reader.text, reader.length, c);
        reader.length++;
        return reader.length;
    }

    public int clear() {
        int before = reader.length;
        reader.length = 0;
        return before;
    }

    public int read() {
        reader.begin();
        for (int i = 0; i <= MOST_TEXT && reader.reachesItem(); i++) {
            reader.readItem();
        }
        if (reader.fault != NONE) {
            return -10 - reader.fault;
        }
        now.empty();
        now.town.take(reader.draft);
        return reader.items;
    }

    // ---- days

    public int days(int n) {
        if (!between(n, 1, MOST_DAYS)) {
            return bad();
        }
        now.past.save(now.town);
        now.town.passDays(Math.min(n, LAST_DAY - now.town.day));
        return now.town.day;
    }

    public int buys(int b, int p) {
        Town town = now.town;
        if (!town.hasBuyer(b) || !town.hasPromise(p)) {
            return bad();
        }
        if (!town.canSell(b, p)) {
            return no();
        }
        now.past.save(town);
        town.sell(b, p);
        return at(town.purses, b);
    }

    public int keeps(int p, int h) {
        Town town = now.town;
        if (!town.hasPromise(p) || !town.hasHearer(h)) {
            return bad();
        }
        if (!town.isHeld(p)) {
            return no();
        }
        now.past.save(town);
        return town.give(p, h);
    }

    public int undo() {
        if (now.past.depth == 0) {
            return no();
        }
        now.past.restore(now.town);
        return now.town.day;
    }

    public int of(int p, int what) {
        Town town = now.town;
        if (!town.hasPromise(p)) {
            return bad();
        }
        switch (what) {
            case 0:
                return at(town.kinds, p);
            case 1:
                return at(town.worths, p);
            case 2:
                return at(town.lain, p);
            case 3:
                return at(town.places, p);
            case 4:
                return town.goodBehind(p, 0);
            case 5:
                return town.priceOf(p);
            default:
                return bad();
        }
    }

    public int about(int h, int what) {
        Town town = now.town;
        if (!town.hasHearer(h)) {
            return bad();
        }
        switch (what) {
            case 0:
                return at(town.hearerKinds, h);
            case 1:
                return at(town.wants, h);
            case 2:
                return town.bitsAt(KEPT + h);
            default:
                return bad();
        }
    }

    public int purse(int b, int what) {
        Town town = now.town;
        if (!town.hasBuyer(b)) {
            return bad();
        }
        switch (what) {
            case 0:
                return at(town.purses, b);
            case 1:
                return town.bitsAt(HELD + b);
            default:
                return bad();
        }
    }

    // ---- joy

    public int good(int p, int m) {
        if (!now.town.hasPromise(p) || !between(m, 0, MOST_AHEAD)) {
            return bad();
        }
        return now.town.goodBehind(p, m);
    }

    public int joy(int p, int h) {
        if (!now.town.hasPromise(p) || !now.town.hasHearer(h)) {
            return bad();
        }
        return now.town.joyTo(p, h);
    }

    public int when(int p, int x) {
        if (!now.town.hasPromise(p) || !between(x, 1, MOST_WHEN)) {
            return bad();
        }
        for (int m = 0; m <= MOST_AHEAD; m++) {
            if (now.town.goodBehind(p, m) >= x) {
                return m;
            }
        }
        return NONE;
    }

    public int waits() {
        return now.town.waitingBits();
    }

    public int fit(int h) {
        Town town = now.town;
        if (h != NONE && !town.hasHearer(h)) {
            return bad(BAD_AS_TEN);
        }
        weigh();
        int free = town.bitsAt(IN_WINDOW);
        if (h == NONE) {
            return mostJoy(gains, town.hearers, 0, free);
        }
        int p = NONE;
        for (int i = 0; i <= h; i++) {
            p = firstFor(i, free);
            if (p != NONE) {
                free = without(free, p);
            }
        }
        return p;
    }

    public int buy(int b, int h, int what) {
        Town town = now.town;
        if (!town.hasBuyer(b) || !town.hasHearer(h) || !between(what, 0, 1)) {
            return bad();
        }
        weigh();
        int bits = bestBuy(at(town.purses, b), h, town.bitsAt(IN_WINDOW));
        return what == 1 ? bits : sumOver(gains, h * PROMISES, bits);
    }

    public int cheap() {
        weigh();
        return leastPrice(gains, prices, now.town.waitingBits(), 0, now.town.bitsAt(IN_WINDOW));
    }

    /** Writes down every JOY and PRICE once, since the searches ask for them over and over. */
    private void weigh() {
        Town town = now.town;
        for (int p = 0; p < town.promises; p++) {
            put(prices, p, town.priceOf(p));
            for (int h = 0; h < town.hearers; h++) {
                put(gains, h * PROMISES + p, town.joyTo(p, h));
            }
        }
    }

    /** The most JOY that HEARERS from h on can have of the free PROMISES. */
    private static int mostJoy(int[] gains, int hearers, int h, int free) {
        if (h >= hearers || h >= HEARERS) {
            return 0;
        }
        int most = mostJoy(gains, hearers, h + 1, free);
        for (int p = 0; p < PROMISES; p++) {
            if (has(free, p)) {
                int rest = mostJoy(gains, hearers, h + 1, without(free, p));
                most = Math.max(most, at(gains, h * PROMISES + p) + rest);
            }
        }
        return most;
    }

    /** The first choice for HEARER h that still leaves the most JOY to be had. */
    private int firstFor(int h, int free) {
        int hearers = now.town.hearers;
        int most = mostJoy(gains, hearers, h, free);
        if (mostJoy(gains, hearers, h + 1, free) == most) {
            return NONE;
        }
        for (int p = 0; p < PROMISES; p++) {
            if (has(free, p)) {
                int rest = mostJoy(gains, hearers, h + 1, without(free, p));
                if (at(gains, h * PROMISES + p) + rest == most) {
                    return p;
                }
            }
        }
        return NONE;
    }

    private static int sumOver(int[] row, int start, int bits) {
        int sum = 0;
        for (int p = 0; p < PROMISES; p++) {
            if (has(bits, p)) {
                sum += at(row, start + p);
            }
        }
        return sum;
    }

    /** Bits rise, and only more JOY replaces a choice: so the least of like ones stays. */
    private int bestBuy(int purse, int h, int window) {
        int best = 0;
        int most = 0;
        for (int bits = 1; bits < 1 << PROMISES; bits++) {
            if ((bits & ~window) == 0 && sumOver(prices, 0, bits) <= purse) {
                int joy = sumOver(gains, h * PROMISES, bits);
                if (joy > most) {
                    most = joy;
                    best = bits;
                }
            }
        }
        return best;
    }

    /** The least PRICE by which each waiting HEARER from h on has one that makes JOY, or NONE. */
    private static int leastPrice(int[] gains, int[] prices, int waiting, int h, int free) {
        if (h >= HEARERS) {
            return 0;
        }
        if (!has(waiting, h)) {
            return leastPrice(gains, prices, waiting, h + 1, free);
        }
        int least = NONE;
        for (int p = 0; p < PROMISES; p++) {
            if (has(free, p) && at(gains, h * PROMISES + p) >= 1) {
                int rest = leastPrice(gains, prices, waiting, h + 1, without(free, p));
                int price = at(prices, p) + rest;
                if (rest != NONE && (least == NONE || price < least)) {
                    least = price;
                }
            }
        }
        return least;
    }

    // ---- which it was

    public int seen(int d, int x) {
        if (!between(d, 0, MOST_LAIN) || !between(x, 0, MOST_GOOD)) {
            return bad();
        }
        return now.seen.isFull() ? full() : now.seen.add(0, 0, d, x);
    }

    public int which() {
        return agreeing(SEEN, 0, now.town.promises);
    }

    public int tell() {
        return bestParting(SEEN, 0, which(), LAST_TELL);
    }

    public int note(int p, int v, int d, int x) {
        if (!now.town.hasPromise(p) || !between(v, 1, MOST_WORTH)) {
            return bad();
        }
        if (!between(d, 0, MOST_LAIN) || !between(x, 0, MOST_GOOD)) {
            return bad();
        }
        return now.notes.isFull() ? full() : now.notes.add(p, v, d, x);
    }

    public int mark(int h, int w, int g, int x) {
        if (!now.town.hasHearer(h) || !between(w, 1, MOST_WANT)) {
            return bad();
        }
        if (!between(g, 0, MOST_GOOD) || !between(x, 0, MOST_JOY)) {
            return bad();
        }
        return now.marks.isFull() ? full() : now.marks.add(h, w, g, x);
    }

    public int forget(int what) {
        if (!between(what, SEEN, MARKS)) {
            return bad();
        }
        Hints hints = now.hintsOf(what);
        int before = hints.size;
        hints.size = 0;
        return before;
    }

    public int is(int p) {
        return now.town.hasPromise(p) ? agreeing(NOTES, p, KINDS) : bad();
    }

    public int look(int p) {
        if (!now.town.hasPromise(p)) {
            return bad();
        }
        return bestParting(NOTES, at(now.town.worths, p), agreeing(NOTES, p, KINDS), LAST_LOOK);
    }

    public int kinds(int h) {
        return now.town.hasHearer(h) ? agreeing(MARKS, h, KINDS) : bad();
    }

    public int ask(int h) {
        if (!now.town.hasHearer(h)) {
            return bad();
        }
        return bestParting(MARKS, at(now.town.wants, h), agreeing(MARKS, h, KINDS), LAST_ASK);
    }

    /** What candidate i (a PROMISE for SEEN ones, else a KIND) answers when it is tried. */
    private int answerOf(int what, int i, int size, int tried) {
        switch (what) {
            case NOTES:
                return goodOf(i, size, tried);
            case MARKS:
                return joyOf(i, size, tried);
            default:
                return goodOf(at(now.town.kinds, i), at(now.town.worths, i), tried);
        }
    }

    /** The candidates, as bits, that answer as every hint about `whom` says. */
    private int agreeing(int what, int whom, int candidates) {
        int bits = 0;
        for (int i = 0; i < candidates; i++) {
            if (agrees(what, whom, i)) {
                bits |= 1 << i;
            }
        }
        return bits;
    }

    private boolean agrees(int what, int whom, int i) {
        Hints hints = now.hintsOf(what);
        for (int r = 0; r < hints.size; r++) {
            int answer = answerOf(what, i, hints.cell(r, Hints.SIZE), hints.cell(r, Hints.TRIED));
            if (hints.cell(r, Hints.WHOM) == whom && answer != hints.cell(r, Hints.ANSWER)) {
                return false;
            }
        }
        return true;
    }

    /** The first number by which the largest crowd of candidates that answer alike is smallest. */
    private int bestParting(int what, int size, int candidates, int last) {
        if (candidates == 0) {
            return NONE;
        }
        int best = NONE;
        int fewest = PROMISES + 1;
        for (int tried = 0; tried <= last; tried++) {
            for (int i = 0; i < PROMISES; i++) {
                put(answers, i, answerOf(what, i, size, tried));
            }
            int crowd = largestCrowd(answers, candidates);
            if (crowd < fewest) {
                fewest = crowd;
                best = tried;
            }
        }
        return best;
    }

    private static int largestCrowd(int[] answers, int candidates) {
        int largest = 0;
        for (int i = 0; i < PROMISES; i++) {
            int alike = 0;
            for (int j = 0; j < PROMISES; j++) {
                if (has(candidates, j) && at(answers, j) == at(answers, i)) {
                    alike++;
                }
            }
            if (has(candidates, i)) {
                largest = Math.max(largest, alike);
            }
        }
        return largest;
    }

    public int bids(int a, int b, int p, int h, int k) {
        Town town = now.town;
        if (!town.hasBuyer(a) || !town.hasBuyer(b) || a == b || k < NONE) {
            return bad(BAD_AS_TEN);
        }
        if (!town.hasPromise(p) || !town.hasHearer(h)) {
            return bad(BAD_AS_TEN);
        }
        int joy = town.joyTo(p, h);
        int found = 0;
        for (int i = 0; i <= MOST_BID; i++) {
            for (int j = 0; j <= MOST_BID; j++) {
                if (rests(joy, i, j)) {
                    if (found == k) {
                        return 10 * i + j;
                    }
                    found++;
                }
            }
        }
        return k == NONE ? found : NOT_SO_MANY;
    }

    private static int firstGets(int joy, int i, int j) {
        if (i >= j) {
            return joy - i / 3;
        }
        return j > 5 ? 1 : 0;
    }

    private static int secondGets(int joy, int i, int j) {
        if (j > i) {
            return joy - j / 3;
        }
        return i > 5 ? 1 : 0;
    }

    private static boolean rests(int joy, int i, int j) {
        int first = firstGets(joy, i, j);
        int second = secondGets(joy, i, j);
        for (int other = 0; other <= MOST_BID; other++) {
            if (firstGets(joy, other, j) > first || secondGets(joy, i, other) > second) {
                return false;
            }
        }
        return true;
    }

    /** Each PROMISE rests with the same odds, so the mean is that share of the whole cost. */
    public int redeemed(int c) {
        if (!between(c, 0, MOST_ODDS)) {
            return bad();
        }
        weigh();
        int cost = sumOver(prices, 0, now.town.bitsAt(IN_WINDOW));
        setFraction((long) cost * (MOST_ODDS - c), MOST_ODDS);
        return 1;
    }

    private void setFraction(long top, long bottom) {
        long common = commonDivisor(top, bottom);
        above = common > 0 ? top / common : 0;
        below = common > 0 ? bottom / common : 1;
    }

    private static long commonDivisor(long one, long other) {
        long a = one;
        long b = other;
        // sixty-four bits leave fewer than a hundred steps
        for (int step = 0; step < 100 && b != 0; step++) {
            long rest = a % b;
            a = b;
            b = rest;
        }
        return a;
    }

    public int years(int seed, int n) {
        if (!between(seed, 0, MOST_SEED) || !between(n, 0, MOST_AHEAD)) {
            return bad();
        }
        trial.take(now.town);
        long x = seed;
        for (int day = 0; day < n; day++) {
            x = (x * 1103515245L + 12345L) % 2147483648L;
            int p = (int) (x / 65536 % 7);
            int h = (int) (x / 1048576 % 4);
            if (trial.isInWindow(p) && trial.hasHearer(h)) {
                trial.give(p, h);
            }
            trial.passDays(1);
        }
        return trial.allJoy;
    }

    // ---- what there is

    public long part(int what) {
        switch (what) {
            case 0:
                return above;
            case 1:
                return below;
            default:
                return bad();
        }
    }

    public int image(int i) {
        if (!between(i, 0, 1)) {
            return bad();
        }
        Shop kept = imageOf(i);
        kept.take(now);
        kept.there = true;
        return 1;
    }

    public int from(int i) {
        if (!between(i, 0, 1)) {
            return bad();
        }
        Shop kept = imageOf(i);
        if (!kept.there) {
            return no();
        }
        now.take(kept);
        return 1;
    }

    private Shop imageOf(int i) {
        return i == 0 ? imageZero : imageOne;
    }

    public int status(int what) {
        switch (what) {
            case 0:
                return bads;
            case 1:
                return noes;
            case 2:
                return fulls;
            default:
                return bad(BAD_STATUS);
        }
    }

    public int count(int what) {
        return between(what, 0, COUNTS - 1) ? countOf(what) : bad();
    }

    private int countOf(int what) {
        switch (what) {
            case 0:
                return now.town.promises;
            case 1:
                return now.town.hearers;
            case 2:
                return now.town.buyers;
            case 3:
                return now.town.day;
            case 4:
                return Integer.bitCount(now.town.bitsAt(IN_WINDOW));
            case 5:
                return now.town.keptCount();
            case 6:
                return now.town.allJoy;
            case 7:
                return now.seen.size;
            case 8:
                return now.notes.size;
            case 9:
                return now.marks.size;
            case 10:
                return now.past.depth;
            default:
                return reader.length;
        }
    }

    public long digest() {
        long h = 1637;
        for (int what = 0; what < COUNTS; what++) {
            h = 31 * h + countOf(what);
        }
        h = now.town.digestOn(h);
        h = now.seen.digestOn(h, Hints.TRIED);
        h = now.notes.digestOn(h, Hints.WHOM);
        h = now.marks.digestOn(h, Hints.WHOM);
        h = 31 * h + above;
        return 31 * h + below;
    }

    /** PROMISES, HEARERS, BUYERS, the DAY and the JOY of all. */
    private static final class Town {
        private final int[] kinds = new int[PROMISES];
        private final int[] worths = new int[PROMISES];
        private final int[] lain = new int[PROMISES];
        private final int[] places = new int[PROMISES];
        private final int[] hearerKinds = new int[HEARERS];
        private final int[] wants = new int[HEARERS];
        private final int[] purses = new int[BUYERS];
        private int promises = 0;
        private int hearers = 0;
        private int buyers = 0;
        private int day = 0;
        private int allJoy = 0;

        /** What rows held may stay: whoever comes writes all of his own cells. */
        private void empty() {
            promises = 0;
            hearers = 0;
            buyers = 0;
            day = 0;
            allJoy = 0;
        }

        private void take(Town other) {
            if (other == null) {
                return;
            }
            copyRow(other.kinds, kinds);
            copyRow(other.worths, worths);
            copyRow(other.lain, lain);
            copyRow(other.places, places);
            copyRow(other.hearerKinds, hearerKinds);
            copyRow(other.wants, wants);
            copyRow(other.purses, purses);
            promises = other.promises;
            hearers = other.hearers;
            buyers = other.buyers;
            day = other.day;
            allJoy = other.allJoy;
        }

        private int addPromise(int kind, int worth) {
            put(kinds, promises, kind);
            put(worths, promises, worth);
            put(lain, promises, 0);
            put(places, promises, IN_WINDOW);
            promises++;
            return promises - 1;
        }

        private int addHearer(int kind, int want) {
            put(hearerKinds, hearers, kind);
            put(wants, hearers, want);
            hearers++;
            return hearers - 1;
        }

        private int addBuyer(int purse) {
            put(purses, buyers, purse);
            buyers++;
            return buyers - 1;
        }

        private boolean hasPromise(int p) {
            return between(p, 0, promises - 1);
        }

        private boolean hasHearer(int h) {
            return between(h, 0, hearers - 1);
        }

        private boolean hasBuyer(int b) {
            return between(b, 0, buyers - 1);
        }

        private boolean isInWindow(int p) {
            return hasPromise(p) && at(places, p) == IN_WINDOW;
        }

        private boolean isHeld(int p) {
            return hasPromise(p) && between(at(places, p), HELD, HELD + BUYERS - 1);
        }

        private int goodBehind(int p, int m) {
            boolean worn = at(places, p) == IN_WINDOW;
            return goodOf(at(kinds, p), at(worths, p), at(lain, p) + (worn ? m : 0));
        }

        private int priceOf(int p) {
            return 2 * goodBehind(p, 0) + 1;
        }

        private int joyTo(int p, int h) {
            return joyOf(at(hearerKinds, h), at(wants, h), goodBehind(p, 0));
        }

        private void passDays(int n) {
            for (int p = 0; p < promises; p++) {
                if (isInWindow(p)) {
                    put(lain, p, at(lain, p) + n);
                }
            }
            day += n;
        }

        private boolean canSell(int b, int p) {
            return hasBuyer(b) && isInWindow(p) && at(purses, b) >= priceOf(p);
        }

        private void sell(int b, int p) {
            put(purses, b, at(purses, b) - priceOf(p));
            put(places, p, HELD + b);
        }

        private int give(int p, int h) {
            int made = joyTo(p, h);
            allJoy += made;
            put(places, p, KEPT + h);
            return made;
        }

        private int bitsAt(int place) {
            int bits = 0;
            for (int p = 0; p < promises; p++) {
                if (at(places, p) == place) {
                    bits |= 1 << p;
                }
            }
            return bits;
        }

        private int keptCount() {
            int kept = 0;
            for (int h = 0; h < hearers; h++) {
                kept += Integer.bitCount(bitsAt(KEPT + h));
            }
            return kept;
        }

        private int waitingBits() {
            int bits = 0;
            for (int h = 0; h < hearers; h++) {
                if (bitsAt(KEPT + h) == 0) {
                    bits |= 1 << h;
                }
            }
            return bits;
        }

        private long digestOn(long start) {
            long h = start;
            for (int p = 0; p < promises; p++) {
                h = 31 * h + at(kinds, p);
                h = 31 * h + at(worths, p);
                h = 31 * h + at(lain, p);
                h = 31 * h + at(places, p);
            }
            for (int i = 0; i < hearers; i++) {
                h = 31 * h + at(hearerKinds, i);
                h = 31 * h + at(wants, i);
            }
            for (int b = 0; b < buyers; b++) {
                h = 31 * h + at(purses, b);
            }
            return h;
        }
    }

    /** The towns ahead of the last steps that may be undone, the oldest first. */
    private static final class Past {
        private static final int LAIN = PROMISES, PURSES = LAIN + PROMISES;
        private static final int JOY = PURSES + BUYERS, DAY = JOY + 1, CELLS = DAY + 1;

        private final int[] cells = new int[MOST_UNDO * CELLS];
        private int depth = 0;

        private void take(Past other) {
            if (other == null) {
                return;
            }
            copyRow(other.cells, cells);
            depth = other.depth;
        }

        private void save(Town town) {
            if (town == null) {
                return;
            }
            if (depth >= MOST_UNDO) {
                copyCells(cells, CELLS, cells, 0, (MOST_UNDO - 1) * CELLS);
                depth = MOST_UNDO - 1;
            }
            int start = depth * CELLS;
            copyCells(town.places, 0, cells, start, PROMISES);
            copyCells(town.lain, 0, cells, start + LAIN, PROMISES);
            copyCells(town.purses, 0, cells, start + PURSES, BUYERS);
            put(cells, start + JOY, town.allJoy);
            put(cells, start + DAY, town.day);
            depth++;
        }

        private void restore(Town town) {
            if (town == null || depth <= 0) {
                return;
            }
            depth--;
            int start = depth * CELLS;
            copyCells(cells, start, town.places, 0, PROMISES);
            copyCells(cells, start + LAIN, town.lain, 0, PROMISES);
            copyCells(cells, start + PURSES, town.purses, 0, BUYERS);
            town.allJoy = at(cells, start + JOY);
            town.day = at(cells, start + DAY);
        }
    }

    /** SEEN ones, NOTES or MARKS: whom it is about, of what WORTH or WANT, what was tried. */
    private static final class Hints {
        private static final int WHOM = 0, SIZE = 1, TRIED = 2, ANSWER = 3, WIDTH = 4;

        private final int most;
        private final int[] cells;
        private int size = 0;

        private Hints(int most) {
            this.most = Math.max(0, most);
            this.cells = new int[this.most * WIDTH];
        }

        private void take(Hints other) {
            if (other == null) {
                return;
            }
            copyRow(other.cells, cells);
            size = other.size;
        }

        private boolean isFull() {
            return size >= most;
        }

        private int add(int whom, int worthOrWant, int tried, int answer) {
            int start = size * WIDTH;
            put(cells, start + WHOM, whom);
            put(cells, start + SIZE, worthOrWant);
            put(cells, start + TRIED, tried);
            put(cells, start + ANSWER, answer);
            size++;
            return size;
        }

        private int cell(int row, int column) {
            return at(cells, row * WIDTH + column);
        }

        /** SEEN ones are about nobody, so their digest begins at a later column. */
        private long digestOn(long start, int firstColumn) {
            long h = start;
            for (int row = 0; row < size; row++) {
                for (int column = firstColumn; column < WIDTH; column++) {
                    h = 31 * h + cell(row, column);
                }
            }
            return h;
        }
    }

    /** All that an IMAGE keeps. */
    private static final class Shop {
        private final Town town = new Town();
        private final Past past = new Past();
        private final Hints seen = new Hints(MOST_SEEN);
        private final Hints notes = new Hints(MOST_NOTES);
        private final Hints marks = new Hints(MOST_MARKS);
        /** Of an IMAGE: whether one was kept. */
        private boolean there = false;

        private void empty() {
            town.empty();
            past.depth = 0;
            seen.size = 0;
            notes.size = 0;
            marks.size = 0;
        }

        private void take(Shop other) {
            if (other == null) {
                return;
            }
            town.take(other.town);
            past.take(other.past);
            seen.take(other.seen);
            notes.take(other.notes);
            marks.take(other.marks);
        }

        private Hints hintsOf(int what) {
            switch (what) {
                case NOTES:
                    return notes;
                case MARKS:
                    return marks;
                default:
                    return seen;
            }
        }
    }

    /** THE TEXT, and the reading of it into a draft, so that a FAULT leaves the town alone. */
    private static final class Reader {
        private static final int END = 0, WORD = 1, NUMBER = 2, STOP = 3, WRONG = 4;
        private static final int TOWN = 0, PROMISE = 1, HEARER = 2, BUYER = 3;
        private static final int BUY = 4, KEEP = 5, DAYS = 6, WORDS = 7;

        private final int[] text = new int[MOST_TEXT];
        private final Town draft = new Town();
        private int length = 0;
        private int fault = NONE;
        private int items = 0;
        /** The TOKEN at hand: its sort, where it begins, where the next may begin, its number. */
        private int token = END;
        private int start = 0;
        private int next = 0;
        private int value = 0;

        private void begin() {
            draft.empty();
            fault = NONE;
            items = 0;
            next = 0;
        }

        /** Goes to the first TOKEN of an ITEM; not where a FAULT or the end is. */
        private boolean reachesItem() {
            advance();
            return fault == NONE && (token != END || items == 0);
        }

        private void readItem() {
            int word = wordAtHand();
            if (!mayStand(word)) {
                fail();
                return;
            }
            switch (word) {
                case PROMISE:
                    readPromise();
                    break;
                case HEARER:
                    readHearer();
                    break;
                case BUYER:
                    readBuyer();
                    break;
                case BUY:
                    readBuy();
                    break;
                case KEEP:
                    readKeep();
                    break;
                case DAYS:
                    readDays();
                    break;
                default:
                    break;
            }
            readStop();
        }

        private boolean mayStand(int word) {
            if (items == 0) {
                return word == TOWN;
            }
            switch (word) {
                case PROMISE:
                    return draft.promises < PROMISES;
                case HEARER:
                    return draft.hearers < HEARERS;
                case BUYER:
                    return draft.buyers < BUYERS;
                default:
                    return between(word, BUY, DAYS);
            }
        }

        private void readPromise() {
            int kind = readNumber(0, KINDS - 1);
            int worth = readNumber(1, MOST_WORTH);
            if (fault == NONE) {
                draft.addPromise(kind, worth);
            }
        }

        private void readHearer() {
            int kind = readNumber(0, KINDS - 1);
            int want = readNumber(1, MOST_WANT);
            if (fault == NONE) {
                draft.addHearer(kind, want);
            }
        }

        private void readBuyer() {
            int purse = readNumber(0, MOST_TEXT_PURSE);
            if (fault == NONE) {
                draft.addBuyer(purse);
            }
        }

        private void readBuy() {
            int b = readNumber(0, draft.buyers - 1);
            int p = readNumber(0, draft.promises - 1);
            if (!draft.canSell(b, p)) {
                fail();
            }
            if (fault == NONE) {
                draft.sell(b, p);
            }
        }

        private void readKeep() {
            int p = readNumber(0, draft.promises - 1);
            if (!draft.isHeld(p)) {
                fail();
            }
            int h = readNumber(0, draft.hearers - 1);
            if (fault == NONE) {
                draft.give(p, h);
            }
        }

        private void readDays() {
            int n = readNumber(1, MOST_DAYS);
            if (fault == NONE) {
                draft.passDays(n);
            }
        }

        private int readNumber(int least, int most) {
            advance();
            if (token != NUMBER || !between(value, least, most)) {
                fail();
            }
            return value;
        }

        private void readStop() {
            advance();
            if (token != STOP) {
                fail();
            }
            if (fault == NONE) {
                items++;
            }
        }

        /** Only the first FAULT is told; behind it no TOKEN is taken any more. */
        private void fail() {
            if (fault == NONE) {
                fault = start;
            }
        }

        private void advance() {
            if (fault != NONE) {
                return;
            }
            start = endOfRun(next, ' ', ' ');
            value = 0;
            int byteHere = at(text, start);
            if (start >= length) {
                token = END;
                next = start;
            } else if (between(byteHere, 'a', 'z')) {
                token = WORD;
                next = endOfRun(start, 'a', 'z');
            } else if (between(byteHere, '0', '9')) {
                next = endOfRun(start, '0', '9');
                token = next - start <= 2 ? NUMBER : WRONG;
                value = numberAtHand();
            } else {
                token = byteHere == ';' ? STOP : WRONG;
                next = start + 1;
            }
        }

        /** Where the bytes from `least` to `most` end that begin at `place`. */
        private int endOfRun(int place, int least, int most) {
            int end = place;
            while (end < length && between(at(text, end), least, most)) {
                end++;
            }
            return end;
        }

        /** Two figures at the most count: longer runs can not stand anywhere. */
        private int numberAtHand() {
            int number = 0;
            for (int i = start; i < next && i < start + 2; i++) {
                number = 10 * number + at(text, i) - '0';
            }
            return number;
        }

        private int wordAtHand() {
            for (int word = 0; word < WORDS; word++) {
                if (token == WORD && isAtHand(spelling(word))) {
                    return word;
                }
            }
            return NONE;
        }

        private static String spelling(int word) {
            switch (word) {
                case TOWN:
                    return "town";
                case PROMISE:
                    return "promise";
                case HEARER:
                    return "hearer";
                case BUYER:
                    return "buyer";
                case BUY:
                    return "buy";
                case KEEP:
                    return "keep";
                default:
                    return "days";
            }
        }

        private boolean isAtHand(String word) {
            if (word == null || word.length() != next - start) {
                return false;
            }
            for (int i = 0; i < word.length(); i++) {
                if (word.charAt(i) != at(text, start + i)) {
                    return false;
                }
            }
            return true;
        }
    }
}
