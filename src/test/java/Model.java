import java.util.ArrayDeque;
import java.util.ArrayList;
import java.util.HashMap;
import java.util.List;
import java.util.Map;
import java.util.regex.Matcher;
import java.util.regex.Pattern;

/**
 * The document once more, in its slowest form: whole copies of what is so,
 * every order, every set, every way of rates. RandomRunsTest holds the class
 * against it, so nothing here is taken from the class.
 */
final class Model {
    static final int NONE = -1, UNKNOWN = -1000000001, OUTSIDE = -1000000002, NOT = -1000000003, FULL = -1000000004;

    /** What section 2 tells of. */
    private static final class So {
        int price;
        int months;
        int chest;
        boolean free;
        boolean dead;
        int[] goods = {};
        int[] rates = {};
        boolean[] given = {};

        So copy() {
            So c = new So();
            c.price = price;
            c.months = months;
            c.chest = chest;
            c.free = free;
            c.dead = dead;
            c.goods = goods.clone();
            c.rates = rates.clone();
            c.given = given.clone();
            return c;
        }
    }

    private String text = "";
    private int faultAt = NONE;
    private boolean any;
    private int death;
    private int[] shy = {};
    private int[] bids = {};
    private int[] days = {};
    private int marks;
    private int bags;
    private So so = new So();
    private ArrayDeque<So> past = new ArrayDeque<>();
    private final So[] images = new So[2];
    private final long[] imageSeeds = new long[2];
    private List<int[]> weighed = new ArrayList<>();
    private List<int[]> book = new ArrayList<>();
    private long seed;

    // ---- the text: what could go on at each letter is asked of a pattern

    private static final String N = " *[0-9]+";
    private static final String TWO = N + " +[0-9]+ *;";
    private static final Pattern FORM = Pattern.compile(" *(k" + TWO + "( *([kpw]" + TWO + "|h" + N + " *;|b" + N + "( *," + N + "){0,8} *;))* *)?");
    private static final Pattern CLAUSE = Pattern.compile("([kpbhw])([^;a-z]*)");

    private static boolean mayGoOn(String head) {
        Matcher m = FORM.matcher(head);
        return m.matches() || m.hitEnd();
    }

    private static int firstMisplaced(String text) {
        for (int i = 0; i < text.length(); i++) {
            if (!mayGoOn(text.substring(0, i + 1))) {
                return i;
            }
        }
        return FORM.matcher(text).matches() ? Integer.MAX_VALUE : text.length();
    }

    /** The earliest of the faults, place times 10 and its number; most, if none. */
    private static long firstFault(String text) {
        int misplaced = firstMisplaced(text);
        long least = misplaced == Integer.MAX_VALUE ? Long.MAX_VALUE : misplaced * 10L + 1;
        Map<Character, Integer> seen = new HashMap<>();
        Matcher m = CLAUSE.matcher(text.substring(0, Math.min(misplaced, text.length())));
        while (m.find()) {
            char word = m.group(1).charAt(0);
            int times = seen.merge(word, 1, Integer::sum);
            if (times > (word == 'p' || word == 'h' ? 6 : 1)) {
                least = Math.min(least, m.start() * 10L + 3);
            }
            Matcher n = Pattern.compile("[0-9]+").matcher(m.group(2));
            for (int i = 0; n.find(); i++) {
                if (!within(word, i, n.group())) {
                    least = Math.min(least, (m.start(2) + n.start()) * 10L + 2);
                }
            }
        }
        return least;
    }

    private static boolean within(char word, int i, String figures) {
        if (figures.length() > 3) {
            return false;
        }
        int v = Integer.parseInt(figures);
        switch (word) {
            case 'k': return i == 0 ? v >= 1 : v <= 99;
            case 'p': return i == 0 || v <= 9;
            case 'h': return v >= 1 && v <= 99;
            case 'w': return v >= 1 && v <= (i == 0 ? 99 : 8);
            default: return true;
        }
    }

    int feed(int letter) {
        if (letter < 0 || letter > 255) {
            return OUTSIDE;
        }
        if (text.length() == 240) {
            return FULL;
        }
        text += (char) letter;
        return text.length();
    }

    int ransom() {
        String read = text;
        text = "";
        long fault = firstFault(read);
        if (fault != Long.MAX_VALUE) {
            faultAt = (int) (fault / 10);
            return -10 - (int) (fault % 10);
        }
        faultAt = NONE;
        begin(read);
        return shy.length;
    }

    private void begin(String read) {
        any = false;
        death = 0;
        marks = 0;
        bags = 0;
        bids = new int[0];
        so = new So();
        List<int[]> payers = new ArrayList<>();
        List<int[]> hostages = new ArrayList<>();
        Matcher m = CLAUSE.matcher(read);
        while (m.find()) {
            int[] n = numbers(m.group(2));
            switch (m.group(1)) {
                case "k": any = true; so.price = n[0]; death = n[1]; break;
                case "p": payers.add(n); break;
                case "b": bids = n; break;
                case "h": hostages.add(n); break;
                default: marks = n[0]; bags = n[1]; break;
            }
        }
        so.goods = payers.stream().mapToInt(n -> n[0]).toArray();
        shy = payers.stream().mapToInt(n -> n[1]).toArray();
        days = hostages.stream().mapToInt(n -> n[0]).toArray();
        so.rates = new int[shy.length];
        so.given = new boolean[days.length];
        past = new ArrayDeque<>();
        images[0] = null;
        images[1] = null;
        weighed = new ArrayList<>();
        book = new ArrayList<>();
    }

    private static int[] numbers(String part) {
        Matcher n = Pattern.compile("[0-9]+").matcher(part);
        return n.results().mapToInt(r -> Integer.parseInt(r.group())).toArray();
    }

    int fault() {
        return faultAt;
    }

    int told(int what) {
        int given = 0;
        for (int h = 0; h < so.given.length; h++) {
            given += so.given[h] ? 1 << h : 0;
        }
        int[] row = {so.price, death, shy.length, bids.length, days.length, bags, marks, text.length(), so.months, so.chest,
            given, so.dead ? 2 : so.free ? 1 : 0, weighed.size(), book.size(), past.size()};
        return what < 0 || what >= row.length ? OUTSIDE : row[what];
    }

    private static int tells(int goods, int shy, int r) {
        int of = 100 - shy * r / 10;
        return goods * (of < 0 ? 0 : of) / 100;
    }

    private int paysAt(int p, int r) {
        return tells(so.goods[p], shy[p], r) * r / 100;
    }

    private boolean isPayer(int p) {
        return p >= 0 && p < shy.length;
    }

    int payer(int p, int what) {
        if (!isPayer(p)) {
            return UNKNOWN;
        }
        int t = tells(so.goods[p], shy[p], so.rates[p]);
        int[] row = {so.goods[p], shy[p], so.rates[p], t, so.goods[p] - t, t * so.rates[p] / 100};
        return what < 0 || what >= row.length ? OUTSIDE : row[what];
    }

    int bid(int month) {
        return month < 0 || month >= bids.length ? NONE : bids[month];
    }

    // ---- what is done

    private void remember() {
        past.addLast(so.copy());
        while (past.size() > 20) {
            past.removeFirst();
        }
    }

    private boolean held() {
        return any && !so.free && !so.dead;
    }

    private void monthGoesBy() {
        for (int p = 0; p < shy.length; p++) {
            int pays = paysAt(p, so.rates[p]);
            so.goods[p] -= pays;
            so.chest += pays;
        }
        so.months++;
    }

    int rate(int p, int r) {
        if (!isPayer(p)) {
            return UNKNOWN;
        }
        if (r < 0 || r > 100) {
            return OUTSIDE;
        }
        remember();
        int was = so.rates[p];
        so.rates[p] = r;
        return was;
    }

    int month(int n) {
        if (n < 1 || n > 24) {
            return OUTSIDE;
        }
        if (!held()) {
            return NOT;
        }
        if (so.months > 9000) {
            return FULL;
        }
        remember();
        for (int i = 0; i < n; i++) {
            monthGoesBy();
        }
        return so.chest;
    }

    int raise(int v) {
        if (v < 1 || v > 999) {
            return OUTSIDE;
        }
        if (!held()) {
            return NOT;
        }
        remember();
        so.price += v;
        if (so.price > 9999) {
            so.price = 9999;
        }
        return so.price;
    }

    int hostage(int h, boolean is) {
        if (h < 0 || h >= days.length) {
            return UNKNOWN;
        }
        remember();
        boolean was = so.given[h];
        so.given[h] = is;
        return was ? 1 : 0;
    }

    private int costs() {
        int cost = so.price;
        for (boolean g : so.given) {
            cost -= g ? 10 : 0;
        }
        return cost < 0 ? 0 : cost;
    }

    int free() {
        if (!held() || so.chest < costs()) {
            return NOT;
        }
        remember();
        so.chest -= costs();
        so.free = true;
        return so.chest;
    }

    int dies() {
        if (!held()) {
            return NOT;
        }
        remember();
        so.dead = true;
        return so.months;
    }

    int drift(int n) {
        if (n < 1 || n > 24) {
            return OUTSIDE;
        }
        if (!held()) {
            return NOT;
        }
        if (so.months > 9000) {
            return FULL;
        }
        remember();
        for (int i = 0; i < n; i++) {
            if (so.dead) {
                continue;
            }
            seed = (seed * 1103515245L + 12345L) % (1L << 31);
            if (seed / 65536 % 100 < death) {
                so.dead = true;
            } else {
                monthGoesBy();
            }
        }
        return told(11);
    }

    int undo() {
        if (past.isEmpty()) {
            return NOT;
        }
        so = past.removeLast();
        return past.size();
    }

    // ---- tried

    int brings(int r) {
        if (r < 0 || r > 100) {
            return OUTSIDE;
        }
        int sum = 0;
        for (int p = 0; p < shy.length; p++) {
            sum += paysAt(p, r);
        }
        return sum;
    }

    int leastRate(int much) {
        if (much < 0 || much > 9999) {
            return OUTSIDE;
        }
        int least = NONE;
        for (int r = 100; r >= 0; r--) {
            least = brings(r) >= much ? r : least;
        }
        return least;
    }

    int rateOfMost() {
        int best = 100;
        for (int r = 99; r >= 0; r--) {
            best = brings(r) >= brings(best) ? r : best;
        }
        return best;
    }

    int spread(int much, int p) {
        if (p != NONE && !isPayer(p)) {
            return UNKNOWN;
        }
        if (much < 0 || much > 9999) {
            return OUTSIDE;
        }
        int ways = 1;
        for (int i = 0; i < shy.length; i++) {
            ways *= 5;
        }
        int bestWay = NONE;
        int bestHidden = 0;
        for (int way = 0; way < ways; way++) {
            int comes = 0;
            int hidden = 0;
            for (int q = 0; q < shy.length; q++) {
                int r = rateIn(way, q);
                comes += paysAt(q, r);
                hidden += so.goods[q] - tells(so.goods[q], shy[q], r);
            }
            if (comes >= much && (bestWay == NONE || hidden < bestHidden)) {
                bestWay = way;
                bestHidden = hidden;
            }
        }
        return bestWay == NONE ? NONE : p == NONE ? bestHidden : rateIn(bestWay, p);
    }

    /** The first payer's rate is the way's first figure of base 5. */
    private int rateIn(int way, int p) {
        for (int q = shy.length - 1; q > p; q--) {
            way /= 5;
        }
        return way % 5 * 25;
    }

    private int waiting(int m) {
        return (m + 1 < bids.length ? worth(m + 1) : so.price) * (100 - death) / 100;
    }

    private int worth(int m) {
        return m >= bids.length ? so.price : Math.max(bids[m], waiting(m));
    }

    int sell(int m, int what) {
        if (m < 0 || m > 9 || what < 0 || what > 1) {
            return OUTSIDE;
        }
        if (what == 0) {
            return worth(m);
        }
        for (int at = m; at < bids.length; at++) {
            if (bids[at] >= waiting(at)) {
                return at;
            }
        }
        return NONE;
    }

    private int bestDays;
    private List<Integer> bestOrder;

    int homeOrder(int i) {
        bestDays = Integer.MAX_VALUE;
        bestOrder = new ArrayList<>();
        orders(new ArrayList<>());
        if (i == NONE) {
            return bestDays;
        }
        return i < 0 || i >= bestOrder.size() ? NONE : bestOrder.get(i);
    }

    private void orders(List<Integer> order) {
        boolean whole = true;
        for (int h = 0; h < days.length; h++) {
            if (so.given[h] && !order.contains(h)) {
                whole = false;
                order.add(h);
                orders(order);
                order.remove(order.size() - 1);
            }
        }
        if (whole) {
            int day = 0;
            int sum = 0;
            for (int h : order) {
                day += days[h];
                sum += day;
            }
            if (sum < bestDays) {
                bestDays = sum;
                bestOrder = new ArrayList<>(order);
            }
        }
    }

    int letters(int p, int a, int b, int n, int k) {
        if (p < 0 || p > 100 || a < 0 || a > 100 || b < 0 || b > 100 || n < 0 || n > 9 || k < 0 || k > n) {
            return OUTSIDE;
        }
        long one = 1000000000L * p / 100;
        long other = 1000000000L * (100 - p) / 100;
        for (int i = 0; i < k; i++) {
            one = one * a / 100;
            other = other * b / 100;
        }
        for (int i = 0; i < n - k; i++) {
            one = one * (100 - a) / 100;
            other = other * (100 - b) / 100;
        }
        return one + other == 0 ? 0 : (int) (one * 1000000L / (one + other));
    }

    int spared(int r, int much) {
        if (r < 0 || r > 100 || much < 0 || much > 9999) {
            return OUTSIDE;
        }
        for (int many = shy.length; many >= 0; many--) {
            for (int set = 0; set < 1 << shy.length; set++) {
                int comes = 0;
                int in = 0;
                for (int p = 0; p < shy.length; p++) {
                    boolean is = (set & 1 << p) != 0;
                    in += is ? 1 : 0;
                    comes += paysAt(p, is ? 0 : r);
                }
                if (in == many && comes >= much) {
                    return set;
                }
            }
        }
        return NONE;
    }

    int lives(int n) {
        if (n < 0 || n > 60) {
            return OUTSIDE;
        }
        long of = 1000000;
        for (int i = 0; i < n; i++) {
            of = of * (100 - death) / 100;
        }
        return (int) of;
    }

    int monthsTo() {
        if (!held()) {
            return NOT;
        }
        So now = so;
        so = so.copy();
        int found = NONE;
        for (int n = 0; n <= 99 && found == NONE; n++) {
            if (so.chest >= costs()) {
                found = n;
            }
            monthGoesBy();
        }
        so = now;
        return found;
    }

    // ---- weighings, books, images

    int weigh(int set, int w) {
        if ((set & -1 << bags) != 0) {
            return UNKNOWN;
        }
        if (w < 0 || w > 999) {
            return OUTSIDE;
        }
        if (weighed.size() == 6) {
            return FULL;
        }
        weighed.add(new int[] {set, w});
        return weighed.size();
    }

    private int weighs(int set, int bag, int by) {
        int sum = 0;
        for (int b = 0; b < bags; b++) {
            if ((set >> b & 1) == 1) {
                sum += b == bag ? marks - by : marks;
            }
        }
        return sum;
    }

    int isShort(int i) {
        List<int[]> fit = new ArrayList<>();
        for (int bag = 0; bag < bags; bag++) {
            for (int by = 1; by <= 9 && by <= marks; by++) {
                boolean all = true;
                for (int[] w : weighed) {
                    all &= weighs(w[0], bag, by) == w[1];
                }
                if (all) {
                    fit.add(new int[] {bag, by});
                }
            }
        }
        if (i == -2) {
            return weighNext(fit);
        }
        if (i == -1) {
            return fit.size();
        }
        return i < 0 || i >= fit.size() ? NONE : 10 * fit.get(i)[0] + fit.get(i)[1];
    }

    private int weighNext(List<int[]> fit) {
        int best = NONE;
        int least = Integer.MAX_VALUE;
        for (int set = 1; set < 1 << bags; set++) {
            Map<Integer, Integer> alike = new HashMap<>();
            int most = 0;
            for (int[] f : fit) {
                most = Math.max(most, alike.merge(weighs(set, f[0], f[1]), 1, Integer::sum));
            }
            if (alike.size() > 1 && most < least) {
                least = most;
                best = set;
            }
        }
        return best;
    }

    int write(int p, int goods) {
        if (!isPayer(p)) {
            return UNKNOWN;
        }
        if (goods < 0 || goods > 999) {
            return OUTSIDE;
        }
        if (book.size() == 15) {
            return FULL;
        }
        book.add(new int[] {p, goods});
        return book.size();
    }

    int tear() {
        int had = weighed.size() + book.size();
        weighed.clear();
        book.clear();
        return had;
    }

    int judge() {
        for (int[] entry : book) {
            if (so.goods[entry[0]] != entry[1]) {
                return book.indexOf(entry);
            }
        }
        return NONE;
    }

    int seed(int v) {
        if (v < 0) {
            return OUTSIDE;
        }
        int was = (int) seed;
        seed = v;
        return was;
    }

    int keep(int i) {
        if (i != 0 && i != 1) {
            return UNKNOWN;
        }
        images[i] = so.copy();
        imageSeeds[i] = seed;
        past.clear();
        return 1;
    }

    int goBack(int i) {
        if (i != 0 && i != 1) {
            return UNKNOWN;
        }
        if (images[i] == null) {
            return NOT;
        }
        so = images[i].copy();
        seed = imageSeeds[i];
        past.clear();
        return 1;
    }
}
