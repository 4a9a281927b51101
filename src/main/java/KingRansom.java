/**
 * A king's ransom: told in a text, asked of payers by rates, paid by months,
 * and tried ahead. README.md tells how it is used.
 */
public final class KingRansom {
    public static final int NONE = -1, UNKNOWN = -1000000001, OUTSIDE = -1000000002, NOT = -1000000003, FULL = -1000000004;

    private static final int MOST_LETTERS = 240;
    private static final int MOST_FIGURES = 3;
    private static final int MOST_PAYERS = 6;
    private static final int MOST_BIDS = 9;
    private static final int MOST_HOSTAGES = 6;
    private static final int MOST_BAGS = 8;
    private static final int MOST_SHORT = 9;
    private static final int MOST_WEIGHED = 6;
    private static final int MOST_ENTRIES = 15;
    private static final int MOST_UNDONE = 20;
    private static final int IMAGES = 2;

    private static final int TOP_NUMBER = 999;
    private static final int TOP_MUCH = 9999;
    private static final int TOP_PRICE = 9999;
    private static final int TOP_RATE = 100;
    private static final int TOP_MONTHS_A_CALL = 24;
    private static final int TOP_MONTHS = 9000;
    private static final int TOP_MONTHS_AHEAD = 99;
    private static final int TOP_LIVES = 60;
    private static final int TOP_SELL_MONTH = 9;
    private static final int TOP_LETTERS_WRITTEN = 9;

    /** Above all days and marks that can be added up. */
    private static final int ABOVE_ALL = 1000000000;

    private static final int MILLION = 1000000;
    private static final long BILLION = 1000000000L;
    private static final long SEED_ROUND = 2147483648L;

    private static final int KEPT = 0, FREE = 1, DEAD = 2;
    private static final int CANNOT_STAND = 1, BAD_NUMBER = 2, TOO_MANY = 3;

    private final Text text = new Text();
    private Tale tale = new Tale();
    private Tale draft = new Tale();
    private final State now = new State();
    private final State ahead = new State();
    private final Past past = new Past();
    private final Image[] images = new Image[IMAGES];
    private final Scales scales = new Scales();
    private final Book book = new Book();
    private final Spreading spreading = new Spreading();
    private int drawn;

    public KingRansom() {
        for (int i = 0; i < IMAGES; i++) {
            images[i] = new Image();
        }
    }

    // ---- the ransom

    public int feed(int letter) {
        if (letter < 0 || letter > 255) {
            return OUTSIDE;
        }
        return text.add(letter) ? text.length : FULL;
    }

    public int ransom() {
        text.readInto(draft);
        if (text.fault != 0) {
            return -10 - text.fault;
        }
        Tale old = tale;
        tale = draft;
        draft = old;
        now.begin(tale);
        past.forget();
        scales.clear();
        book.clear();
        for (int i = 0; i < IMAGES; i++) {
            images[i].held = false;
        }
        return tale.payers;
    }

    public int fault() {
        return text.place;
    }

    public int told(int what) {
        switch (what) {
            case 0: return now.price;
            case 1: return tale.death;
            case 2: return tale.payers;
            case 3: return tale.bids;
            case 4: return tale.hostages;
            case 5: return tale.bags;
            case 6: return tale.bagMarks;
            case 7: return text.length;
            case 8: return now.months;
            case 9: return now.chest;
            case 10: return now.given;
            case 11: return now.fate;
            case 12: return scales.count;
            case 13: return book.count;
            case 14: return past.count;
            default: return OUTSIDE;
        }
    }

    public int payer(int p, int what) {
        if (!isPayer(p)) {
            return UNKNOWN;
        }
        int goods = now.goods[p];
        int shy = tale.shy[p];
        int asked = now.rates[p];
        switch (what) {
            case 0: return goods;
            case 1: return shy;
            case 2: return asked;
            case 3: return tells(goods, shy, asked);
            case 4: return goods - tells(goods, shy, asked);
            case 5: return pays(goods, shy, asked);
            default: return OUTSIDE;
        }
    }

    public int bid(int month) {
        return month >= 0 && month < tale.bids ? tale.bidOf[month] : NONE;
    }

    // ---- what is done

    public int rate(int p, int r) {
        if (!isPayer(p)) {
            return UNKNOWN;
        }
        if (!isRate(r)) {
            return OUTSIDE;
        }
        past.push(now);
        int old = now.rates[p];
        now.rates[p] = r;
        return old;
    }

    public int month(int n) {
        int refusal = refusalOfMonths(n);
        if (refusal != 0) {
            return refusal;
        }
        past.push(now);
        for (int i = 0; i < n; i++) {
            now.passMonth(tale);
        }
        return now.chest;
    }

    public int raise(int v) {
        if (v < 1 || v > TOP_NUMBER) {
            return OUTSIDE;
        }
        if (!isKept()) {
            return NOT;
        }
        past.push(now);
        now.price = Math.min(TOP_PRICE, now.price + v);
        return now.price;
    }

    public int hostage(int h, boolean is) {
        if (h < 0 || h >= tale.hostages) {
            return UNKNOWN;
        }
        past.push(now);
        int bit = 1 << h;
        int was = (now.given & bit) != 0 ? 1 : 0;
        now.given = is ? now.given | bit : now.given & ~bit;
        return was;
    }

    public int free() {
        if (!isKept() || now.chest < now.cost()) {
            return NOT;
        }
        past.push(now);
        now.chest -= now.cost();
        now.fate = FREE;
        return now.chest;
    }

    public int dies() {
        if (!isKept()) {
            return NOT;
        }
        past.push(now);
        now.fate = DEAD;
        return now.months;
    }

    public int drift(int n) {
        int refusal = refusalOfMonths(n);
        if (refusal != 0) {
            return refusal;
        }
        past.push(now);
        for (int i = 0; i < n && now.fate == KEPT; i++) {
            if (drawOfHundred() < tale.death) {
                now.fate = DEAD;
            } else {
                now.passMonth(tale);
            }
        }
        return now.fate;
    }

    public int undo() {
        return past.pop(now) ? past.count : NOT;
    }

    // ---- tried

    public int brings(int r) {
        return isRate(r) ? comesBy(r, 0) : OUTSIDE;
    }

    public int leastRate(int much) {
        if (!isMuch(much)) {
            return OUTSIDE;
        }
        for (int r = 0; r <= TOP_RATE; r++) {
            if (comesBy(r, 0) >= much) {
                return r;
            }
        }
        return NONE;
    }

    public int rateOfMost() {
        int best = 0;
        int most = comesBy(0, 0);
        for (int r = 1; r <= TOP_RATE; r++) {
            int comes = comesBy(r, 0);
            if (comes > most) {
                most = comes;
                best = r;
            }
        }
        return best;
    }

    public int spread(int much, int p) {
        if (p != NONE && !isPayer(p)) {
            return UNKNOWN;
        }
        if (!isMuch(much)) {
            return OUTSIDE;
        }
        if (!spreading.find(now, tale, much)) {
            return NONE;
        }
        return p == NONE ? spreading.leastHidden : spreading.best[p];
    }

    public int sell(int m, int what) {
        if (m < 0 || m > TOP_SELL_MONTH || what < 0 || what > 1) {
            return OUTSIDE;
        }
        int worth = now.price;
        int when = NONE;
        for (int at = tale.bids - 1; at >= m; at--) {
            int waiting = worth * (100 - tale.death) / 100;
            int offered = tale.bidOf[at];
            if (offered >= waiting) {
                when = at;
            }
            worth = Math.max(offered, waiting);
        }
        return what == 0 ? worth : when;
    }

    public int homeOrder(int i) {
        int waiting = now.given;
        int day = 0;
        int days = 0;
        for (int turn = 0; turn < MOST_HOSTAGES && waiting != 0; turn++) {
            int next = soonest(waiting);
            if (turn == i) {
                return next;
            }
            day += tale.daysOf[next];
            days += day;
            waiting &= ~(1 << next);
        }
        return i == NONE ? days : NONE;
    }

    public int letters(int p, int a, int b, int n, int k) {
        if (!isPercent(p) || !isPercent(a) || !isPercent(b)) {
            return OUTSIDE;
        }
        if (n < 0 || n > TOP_LETTERS_WRITTEN || k < 0 || k > n) {
            return OUTSIDE;
        }
        long lies = behindLetters(p, a, n, k);
        long both = lies + behindLetters(100 - p, b, n, k);
        return both == 0 ? 0 : (int) (lies * MILLION / both);
    }

    public int spared(int r, int much) {
        if (!isRate(r) || !isMuch(much)) {
            return OUTSIDE;
        }
        int best = NONE;
        int most = NONE;
        for (int set = 0; set < 1 << tale.payers; set++) {
            int many = Integer.bitCount(set);
            if (many > most && comesBy(r, set) >= much) {
                most = many;
                best = set;
            }
        }
        return best;
    }

    public int lives(int n) {
        if (n < 0 || n > TOP_LIVES) {
            return OUTSIDE;
        }
        int odds = MILLION;
        for (int i = 0; i < n; i++) {
            odds = odds * (100 - tale.death) / 100;
        }
        return odds;
    }

    public int monthsTo() {
        if (!isKept()) {
            return NOT;
        }
        ahead.become(now);
        int cost = ahead.cost();
        for (int n = 0; n <= TOP_MONTHS_AHEAD; n++) {
            if (ahead.chest >= cost) {
                return n;
            }
            ahead.passMonth(tale);
        }
        return NONE;
    }

    // ---- weighings, books, images

    public int weigh(int set, int w) {
        if (set < 0 || set >= 1 << tale.bags) {
            return UNKNOWN;
        }
        if (w < 0 || w > TOP_NUMBER) {
            return OUTSIDE;
        }
        return scales.add(set, w) ? scales.count : FULL;
    }

    public int isShort(int i) {
        scales.findShort(tale);
        if (i == NONE) {
            return scales.fits;
        }
        return i == -2 ? scales.nextSet(tale) : scales.fitAt(i, tale);
    }

    public int write(int p, int goods) {
        if (!isPayer(p)) {
            return UNKNOWN;
        }
        if (goods < 0 || goods > TOP_NUMBER) {
            return OUTSIDE;
        }
        return book.add(p, goods) ? book.count : FULL;
    }

    public int tear() {
        int had = scales.count + book.count;
        scales.clear();
        book.clear();
        return had;
    }

    public int judge() {
        return book.firstWrong(now);
    }

    public int seed(int v) {
        if (v < 0) {
            return OUTSIDE;
        }
        int old = drawn;
        drawn = v;
        return old;
    }

    public int keep(int i) {
        if (!isImage(i)) {
            return UNKNOWN;
        }
        images[i].held = true;
        images[i].state.become(now);
        images[i].drawn = drawn;
        past.forget();
        return 1;
    }

    public int goBack(int i) {
        if (!isImage(i)) {
            return UNKNOWN;
        }
        if (!images[i].held) {
            return NOT;
        }
        now.become(images[i].state);
        drawn = images[i].drawn;
        past.forget();
        return 1;
    }

    // ---- what several calls share

    private boolean isPayer(int p) {
        return p >= 0 && p < tale.payers;
    }

    private boolean isKept() {
        return tale.stands && now.fate == KEPT;
    }

    private static boolean isImage(int i) {
        return i >= 0 && i < IMAGES;
    }

    private static boolean isRate(int r) {
        return r >= 0 && r <= TOP_RATE;
    }

    private static boolean isPercent(int share) {
        return share >= 0 && share <= 100;
    }

    private static boolean isMuch(int much) {
        return much >= 0 && much <= TOP_MUCH;
    }

    private int refusalOfMonths(int n) {
        if (n < 1 || n > TOP_MONTHS_A_CALL) {
            return OUTSIDE;
        }
        if (!isKept()) {
            return NOT;
        }
        return now.months > TOP_MONTHS ? FULL : 0;
    }

    private int drawOfHundred() {
        drawn = (int) ((drawn * 1103515245L + 12345L) % SEED_ROUND);
        return drawn / 65536 % 100;
    }

    /** What one month brings, all at this rate but those in the set, who pay none. */
    private int comesBy(int r, int sparedSet) {
        int sum = 0;
        for (int p = 0; p < tale.payers; p++) {
            if ((sparedSet >> p & 1) == 0) {
                sum += pays(now.goods[p], tale.shy[p], r);
            }
        }
        return sum;
    }

    private int soonest(int waiting) {
        int best = 0;
        int least = ABOVE_ALL;
        for (int h = 0; h < tale.hostages; h++) {
            if ((waiting >> h & 1) != 0 && tale.daysOf[h] < least) {
                least = tale.daysOf[h];
                best = h;
            }
        }
        return best;
    }

    /** The cuts make the order matter: letters that said so come first. */
    private static long behindLetters(int share, int saysSo, int n, int k) {
        long part = BILLION * share / 100;
        for (int i = 0; i < n; i++) {
            part = part * (i < k ? saysSo : 100 - saysSo) / 100;
        }
        return part;
    }

    private static int tells(int goods, int shy, int asked) {
        return goods * Math.max(0, 100 - shy * asked / 10) / 100;
    }

    private static int pays(int goods, int shy, int asked) {
        return tells(goods, shy, asked) * asked / 100;
    }

    /** What a text told; it stays as it is till another text is read. */
    private static final class Tale {
        private boolean stands;
        private int price;
        private int death;
        private int payers;
        private int bids;
        private int hostages;
        private int bags;
        private int bagMarks;
        private final int[] goods = new int[MOST_PAYERS];
        private final int[] shy = new int[MOST_PAYERS];
        private final int[] bidOf = new int[MOST_BIDS];
        private final int[] daysOf = new int[MOST_HOSTAGES];

        private void clear() {
            stands = false;
            price = 0;
            death = 0;
            payers = 0;
            bids = 0;
            hostages = 0;
            bags = 0;
            bagMarks = 0;
        }

        private void addPayer(int much, int howShy) {
            if (payers < MOST_PAYERS) {
                goods[payers] = much;
                shy[payers] = howShy;
                payers++;
            }
        }

        private void addBid(int much) {
            if (bids < MOST_BIDS) {
                bidOf[bids] = much;
                bids++;
            }
        }

        private void addHostage(int days) {
            if (hostages < MOST_HOSTAGES) {
                daysOf[hostages] = days;
                hostages++;
            }
        }
    }

    /** The letters that were fed, read from the first on till one has a fault. */
    private static final class Text {
        private final int[] signs = new int[MOST_LETTERS];
        private int length;
        private int at;
        private int fault;
        private int place = NONE;

        private boolean add(int sign) {
            if (length >= MOST_LETTERS) {
                return false;
            }
            signs[length] = sign;
            length++;
            return true;
        }

        private void readInto(Tale draft) {
            draft.clear();
            at = 0;
            fault = 0;
            place = NONE;
            skipBlanks();
            for (int clause = 0; clause < MOST_LETTERS && at < length && fault == 0; clause++) {
                readClause(draft);
                skipBlanks();
            }
            length = 0;
        }

        private void readClause(Tale draft) {
            int word = here();
            if (!draft.stands && word != 'k') {
                fail(CANNOT_STAND, at);
                return;
            }
            switch (word) {
                case 'k':
                    readKing(draft);
                    break;
                case 'p':
                    readPayer(draft);
                    break;
                case 'b':
                    readBids(draft);
                    break;
                case 'h':
                    readHostage(draft);
                    break;
                case 'w':
                    readBags(draft);
                    break;
                default:
                    fail(CANNOT_STAND, at);
                    break;
            }
        }

        private void readKing(Tale draft) {
            takeWord(draft.stands);
            draft.stands = true;
            draft.price = number(1, 999);
            draft.death = number(0, 99);
            close();
        }

        private void readPayer(Tale draft) {
            takeWord(draft.payers >= MOST_PAYERS);
            int goods = number(0, 999);
            int shy = number(0, 9);
            draft.addPayer(goods, shy);
            close();
        }

        private void readBids(Tale draft) {
            takeWord(draft.bids > 0);
            boolean more = true;
            for (int n = 1; n <= MOST_BIDS && more; n++) {
                draft.addBid(number(0, 999));
                more = n < MOST_BIDS && takes(',');
            }
            close();
        }

        private void readHostage(Tale draft) {
            takeWord(draft.hostages >= MOST_HOSTAGES);
            draft.addHostage(number(1, 99));
            close();
        }

        private void readBags(Tale draft) {
            takeWord(draft.bags > 0);
            draft.bagMarks = number(1, 99);
            draft.bags = number(1, MOST_BAGS);
            close();
        }

        private void takeWord(boolean tooMany) {
            if (tooMany) {
                fail(TOO_MANY, at);
            }
            at++;
        }

        private int number(int least, int most) {
            skipBlanks();
            int first = at;
            int value = 0;
            for (int i = 0; i < MOST_LETTERS && isFigure(here()); i++) {
                if (i < MOST_FIGURES) {
                    value = value * 10 + here() - '0';
                }
                at++;
            }
            if (at == first) {
                fail(CANNOT_STAND, first);
            } else if (at - first > MOST_FIGURES || value < least || value > most) {
                fail(BAD_NUMBER, first);
            }
            return value;
        }

        private void close() {
            if (!takes(';')) {
                fail(CANNOT_STAND, at);
            }
        }

        private boolean takes(int sign) {
            skipBlanks();
            if (here() != sign) {
                return false;
            }
            at++;
            return true;
        }

        private void skipBlanks() {
            for (int i = 0; i < MOST_LETTERS && here() == ' '; i++) {
                at++;
            }
        }

        private int here() {
            return at >= 0 && at < length ? signs[at] : NONE;
        }

        private static boolean isFigure(int sign) {
            return sign >= '0' && sign <= '9';
        }

        /** A clause is read on behind its fault, so only the first one counts. */
        private void fail(int number, int where) {
            if (fault == 0) {
                fault = number;
                place = where;
            }
        }
    }

    /** All that months, rates, prices and hostages change. */
    private static final class State {
        private int price;
        private int months;
        private int chest;
        private int given;
        private int fate;
        private final int[] goods = new int[MOST_PAYERS];
        private final int[] rates = new int[MOST_PAYERS];

        private void begin(Tale tale) {
            price = tale.price;
            months = 0;
            chest = 0;
            given = 0;
            fate = KEPT;
            for (int p = 0; p < MOST_PAYERS; p++) {
                goods[p] = tale.goods[p];
                rates[p] = 0;
            }
        }

        private void become(State other) {
            price = other.price;
            months = other.months;
            chest = other.chest;
            given = other.given;
            fate = other.fate;
            for (int p = 0; p < MOST_PAYERS; p++) {
                goods[p] = other.goods[p];
                rates[p] = other.rates[p];
            }
        }

        private int cost() {
            return Math.max(0, price - 10 * Integer.bitCount(given));
        }

        private void passMonth(Tale tale) {
            for (int p = 0; p < tale.payers; p++) {
                int paid = pays(goods[p], tale.shy[p], rates[p]);
                goods[p] -= paid;
                chest += paid;
            }
            months++;
        }
    }

    /** States to undo to, in a ring, so that the oldest is lost by itself. */
    private static final class Past {
        private final State[] states = new State[MOST_UNDONE];
        private int next;
        private int count;

        private Past() {
            for (int i = 0; i < MOST_UNDONE; i++) {
                states[i] = new State();
            }
        }

        private void push(State state) {
            states[next].become(state);
            next = (next + 1) % MOST_UNDONE;
            count = Math.min(MOST_UNDONE, count + 1);
        }

        private boolean pop(State into) {
            if (count == 0) {
                return false;
            }
            next = (next + MOST_UNDONE - 1) % MOST_UNDONE;
            count--;
            into.become(states[next]);
            return true;
        }

        private void forget() {
            count = 0;
        }
    }

    private static final class Image {
        private boolean held;
        private int drawn;
        private final State state = new State();
    }

    /** Weighings, and which bag may be short by how much as they say. */
    private static final class Scales {
        private final int[] sets = new int[MOST_WEIGHED];
        private final int[] weights = new int[MOST_WEIGHED];
        private int count;
        /** By how much is short: the set of bags of which that fits. */
        private final int[] bagsShortBy = new int[MOST_SHORT + 1];
        private int fits;

        private void clear() {
            count = 0;
        }

        private boolean add(int set, int weight) {
            if (count >= MOST_WEIGHED) {
                return false;
            }
            sets[count] = set;
            weights[count] = weight;
            count++;
            return true;
        }

        private void findShort(Tale tale) {
            fits = 0;
            for (int by = 1; by <= MOST_SHORT; by++) {
                bagsShortBy[by] = 0;
                for (int bag = 0; bag < tale.bags && by <= tale.bagMarks; bag++) {
                    if (fitsAll(bag, by, tale.bagMarks)) {
                        bagsShortBy[by] |= 1 << bag;
                        fits++;
                    }
                }
            }
        }

        private boolean fitsAll(int bag, int by, int marks) {
            for (int i = 0; i < count; i++) {
                int missing = (sets[i] >> bag & 1) * by;
                if (Integer.bitCount(sets[i]) * marks - missing != weights[i]) {
                    return false;
                }
            }
            return true;
        }

        private int fitAt(int i, Tale tale) {
            int seen = 0;
            for (int bag = 0; bag < tale.bags; bag++) {
                for (int by = 1; by <= MOST_SHORT; by++) {
                    if ((bagsShortBy[by] >> bag & 1) != 0) {
                        if (seen == i) {
                            return 10 * bag + by;
                        }
                        seen++;
                    }
                }
            }
            return NONE;
        }

        private int nextSet(Tale tale) {
            int best = NONE;
            int least = fits;
            for (int set = 1; set < 1 << tale.bags; set++) {
                int greatest = greatestAlike(set);
                if (greatest < least) {
                    least = greatest;
                    best = set;
                }
            }
            return best;
        }

        /** What a set weighs tells only how much is missing in it, if at all. */
        private int greatestAlike(int set) {
            int nothingMissing = fits;
            int greatest = 0;
            for (int by = 1; by <= MOST_SHORT; by++) {
                int alike = Integer.bitCount(bagsShortBy[by] & set);
                nothingMissing -= alike;
                greatest = Math.max(greatest, alike);
            }
            return Math.max(greatest, nothingMissing);
        }
    }

    private static final class Book {
        private final int[] whose = new int[MOST_ENTRIES];
        private final int[] goods = new int[MOST_ENTRIES];
        private int count;

        private void clear() {
            count = 0;
        }

        private boolean add(int p, int much) {
            if (count >= MOST_ENTRIES) {
                return false;
            }
            whose[count] = p;
            goods[count] = much;
            count++;
            return true;
        }

        private int firstWrong(State now) {
            for (int i = 0; i < count; i++) {
                if (now.goods[whose[i]] != goods[i]) {
                    return i;
                }
            }
            return NONE;
        }
    }

    /** Tries rates for each payer, the first of the least hidden staying. */
    private static final class Spreading {
        private static final int STEPS = 5;
        private static final int STEP = 25;

        private final int[] paid = new int[MOST_PAYERS * STEPS];
        private final int[] hidden = new int[MOST_PAYERS * STEPS];
        /** The most that the payers from this one on can pay together. */
        private final int[] mostFrom = new int[MOST_PAYERS + 1];
        private final int[] tried = new int[MOST_PAYERS];
        private final int[] best = new int[MOST_PAYERS];
        private int payers;
        private int much;
        private int leastHidden;

        private boolean find(State now, Tale tale, int wanted) {
            payers = tale.payers;
            much = wanted;
            leastHidden = ABOVE_ALL;
            mostFrom[payers] = 0;
            for (int p = payers - 1; p >= 0; p--) {
                mostFrom[p] = mostFrom[p + 1] + layOut(p, now.goods[p], tale.shy[p]);
            }
            tryFrom(0, 0, 0);
            return leastHidden != ABOVE_ALL;
        }

        private int layOut(int p, int goods, int shy) {
            int most = 0;
            for (int step = 0; step < STEPS; step++) {
                int i = p * STEPS + step;
                paid[i] = pays(goods, shy, step * STEP);
                hidden[i] = goods - tells(goods, shy, step * STEP);
                most = Math.max(most, paid[i]);
            }
            return most;
        }

        /** Lesser rates are tried first, so a later like one does not replace an earlier. */
        private void tryFrom(int p, int comes, int hides) {
            if (hides >= leastHidden || comes + mostFrom[p] < much) {
                return;
            }
            if (p >= payers) {
                leastHidden = hides;
                System.arraycopy(tried, 0, best, 0, MOST_PAYERS);
                return;
            }
            for (int step = 0; step < STEPS; step++) {
                int i = p * STEPS + step;
                tried[p] = step * STEP;
                tryFrom(p + 1, comes + paid[i], hides + hidden[i]);
            }
        }
    }
}
