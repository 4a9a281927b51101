import java.util.Random;

/** Runs of calls, drawn from a fixed seed, held against the slow Model. */
public final class RandomRunsTest {
    private static final int RUNS = 1500;
    private static final int CALLS = 120;
    private static final int TEXTS = 40000;

    private static final Check check = new Check("RandomRunsTest");
    private static final Random random = new Random(20261118);

    private static KingRansom x;
    private static Model m;
    private static String lastText = "";

    public static void main(String[] args) {
        texts();
        for (int run = 0; run < RUNS; run++) {
            check.part("run " + run);
            run();
        }
        check.end();
    }

    private static void texts() {
        x = new KingRansom();
        m = new Model();
        for (int i = 0; i < TEXTS; i++) {
            check.part("text " + i);
            tell(random.nextInt(4) == 0 ? text() : broken(text()));
            same();
        }
    }

    private static void run() {
        x = new KingRansom();
        m = new Model();
        if (random.nextInt(20) != 0) {
            tell(text());
        }
        for (int i = 0; i < CALLS; i++) {
            call();
            same();
        }
    }

    private static void tell(String text) {
        for (int i = 0; i < text.length(); i++) {
            check.due("feed", x.feed(text.charAt(i)), m.feed(text.charAt(i)));
        }
        lastText = text;
        check.due("ransom() of '" + text + "'", x.ransom(), m.ransom());
        check.due("fault() of '" + text + "'", x.fault(), m.fault());
    }

    // ---- texts

    private static String text() {
        StringBuilder b = new StringBuilder();
        clause(b, "k", 1 + random.nextInt(999), random.nextInt(3) == 0 ? random.nextInt(100) : random.nextInt(15));
        int payers = random.nextInt(7);
        int hostages = random.nextInt(7);
        boolean bids = random.nextInt(4) != 0;
        boolean bags = random.nextInt(4) != 0;
        while (payers > 0 || hostages > 0 || bids || bags) {
            int which = random.nextInt(4);
            if (which == 0 && payers > 0) {
                payers--;
                clause(b, "p", goods(), random.nextInt(10));
            } else if (which == 1 && hostages > 0) {
                hostages--;
                clause(b, "h", 1 + random.nextInt(random.nextBoolean() ? 99 : 4));
            } else if (which == 2 && bids) {
                bids = false;
                bids(b);
            } else if (which == 3 && bags) {
                bags = false;
                clause(b, "w", 1 + random.nextInt(random.nextBoolean() ? 99 : 12), 1 + random.nextInt(8));
            }
        }
        blank(b);
        return b.length() > 240 ? text() : b.toString();
    }

    private static int goods() {
        return random.nextInt(4) == 0 ? random.nextInt(4) * 100 : random.nextInt(1000);
    }

    private static void clause(StringBuilder b, String word, int... numbers) {
        blank(b);
        b.append(word);
        for (int i = 0; i < numbers.length; i++) {
            if (i > 0) {
                b.append(' ');
            }
            number(b, numbers[i]);
        }
        blank(b);
        b.append(';');
    }

    private static void bids(StringBuilder b) {
        blank(b);
        b.append('b');
        int n = 1 + random.nextInt(9);
        for (int i = 0; i < n; i++) {
            if (i > 0) {
                blank(b);
                b.append(',');
            }
            number(b, random.nextInt(1000));
        }
        blank(b);
        b.append(';');
    }

    private static void number(StringBuilder b, int v) {
        blank(b);
        String figures = Integer.toString(v);
        while (figures.length() < 3 && random.nextInt(15) == 0) {
            figures = "0" + figures;
        }
        b.append(figures);
    }

    private static void blank(StringBuilder b) {
        while (random.nextInt(25) == 0) {
            b.append(' ');
        }
    }

    private static String broken(String text) {
        StringBuilder b = new StringBuilder(text);
        String signs = "kpbhw0123456789;, xK" + (char) 0 + (char) 255 + (char) 9;
        int times = 1 + random.nextInt(2);
        for (int i = 0; i < times && b.length() > 0; i++) {
            int at = random.nextInt(b.length());
            char sign = signs.charAt(random.nextInt(signs.length()));
            switch (random.nextInt(6)) {
                case 0: b.setCharAt(at, sign); break;
                case 1: b.insert(at, sign); break;
                case 2: b.deleteCharAt(at); break;
                case 3: b.setLength(at); break;
                case 4: b.append(sign); break;
                default: b.append(b.substring(at)); break;
            }
        }
        return b.length() > 240 ? b.substring(0, 240) : b.toString();
    }

    // ---- calls

    private static int near(int least, int most) {
        switch (random.nextInt(24)) {
            case 0: return least - 1;
            case 1: return most + 1;
            case 2: return least;
            case 3: return most;
            case 4: return random.nextInt();
            default: return least + random.nextInt(most - least + 1);
        }
    }

    private static int someone() {
        int n = m.told(2);
        return random.nextInt(10) == 0 ? near(0, 6) : n == 0 ? 0 : random.nextInt(n);
    }

    private static int much() {
        int r = random.nextInt(6);
        if (r == 0) {
            return near(0, 9999);
        }
        return Math.max(0, m.brings(random.nextInt(101)) * random.nextInt(140) / 100);
    }

    private static void call() {
        int kind = random.nextInt(100);
        if (kind < 45) {
            callDone(random.nextInt(16));
        } else if (kind < 75) {
            callTried(random.nextInt(11));
        } else {
            callKept(random.nextInt(13));
        }
    }

    private static void callDone(int which) {
        int a;
        int b;
        switch (which) {
            case 0: case 1: case 2: case 3:
                a = someone();
                b = near(0, 100);
                check.due("rate(" + a + ", " + b + ")", x.rate(a, b), m.rate(a, b));
                break;
            case 4: case 5:
                a = random.nextInt(4) == 0 ? near(1, 24) : 1 + random.nextInt(2);
                check.due("month(" + a + ")", x.month(a), m.month(a));
                break;
            case 6: case 7:
                a = near(1, 999);
                check.due("raise(" + a + ")", x.raise(a), m.raise(a));
                break;
            case 8: case 9: case 10:
                a = near(0, 5);
                boolean is = random.nextInt(3) != 0;
                check.due("hostage(" + a + ", " + is + ")", x.hostage(a, is), m.hostage(a, is));
                break;
            case 11:
                check.due("free()", x.free(), m.free());
                break;
            case 12:
                if (random.nextInt(4) == 0) {
                    check.due("dies()", x.dies(), m.dies());
                }
                break;
            case 13:
                a = near(1, 24);
                check.due("drift(" + a + ")", x.drift(a), m.drift(a));
                break;
            default:
                check.due("undo()", x.undo(), m.undo());
                break;
        }
    }

    private static void callTried(int which) {
        int a;
        int b;
        switch (which) {
            case 0:
                a = near(0, 100);
                check.due("brings(" + a + ")", x.brings(a), m.brings(a));
                break;
            case 1:
                a = much();
                check.due("leastRate(" + a + ")", x.leastRate(a), m.leastRate(a));
                break;
            case 2:
                check.due("rateOfMost()", x.rateOfMost(), m.rateOfMost());
                break;
            case 3:
                a = much();
                for (b = random.nextInt(3) == 0 ? -2 : 6; b <= 6; b++) {
                    check.due("spread(" + a + ", " + b + ")", x.spread(a, b), m.spread(a, b));
                }
                break;
            case 4: case 5:
                a = near(0, 9);
                b = near(0, 1);
                check.due("sell(" + a + ", " + b + ")", x.sell(a, b), m.sell(a, b));
                break;
            case 6:
                for (a = -2; a <= 6; a++) {
                    check.due("homeOrder(" + a + ")", x.homeOrder(a), m.homeOrder(a));
                }
                break;
            case 7:
                callLetters();
                break;
            case 8:
                a = near(0, 100);
                b = much();
                check.due("spared(" + a + ", " + b + ")", x.spared(a, b), m.spared(a, b));
                break;
            case 9:
                a = near(0, 60);
                check.due("lives(" + a + ")", x.lives(a), m.lives(a));
                break;
            default:
                check.due("monthsTo()", x.monthsTo(), m.monthsTo());
                break;
        }
    }

    private static void callLetters() {
        int p = near(0, 100);
        int a = near(0, 100);
        int b = near(0, 100);
        int n = near(0, 9);
        int k = near(0, Math.max(0, Math.min(9, n)));
        check.due("letters(" + p + ", " + a + ", " + b + ", " + n + ", " + k + ")", x.letters(p, a, b, n, k), m.letters(p, a, b, n, k));
    }

    private static void callKept(int which) {
        int a;
        int b;
        switch (which) {
            case 0: case 1: case 2:
                callWeigh();
                break;
            case 3:
                for (a = -4; a <= 10; a++) {
                    check.due("isShort(" + a + ")", x.isShort(a), m.isShort(a));
                }
                a = near(0, 72);
                check.due("isShort(" + a + ")", x.isShort(a), m.isShort(a));
                break;
            case 4: case 5: case 6:
                a = someone();
                b = random.nextInt(6) == 0 ? near(0, 999) : Math.max(0, m.payer(a, 0));
                check.due("write(" + a + ", " + b + ")", x.write(a, b), m.write(a, b));
                break;
            case 7:
                check.due("tear()", x.tear(), m.tear());
                break;
            case 8:
                check.due("judge()", x.judge(), m.judge());
                break;
            case 9:
                a = random.nextInt(4) == 0 ? random.nextInt() : random.nextInt(1000);
                check.due("seed(" + a + ")", x.seed(a), m.seed(a));
                break;
            case 10:
                a = near(0, 1);
                check.due("keep(" + a + ")", x.keep(a), m.keep(a));
                break;
            case 11:
                a = near(0, 1);
                check.due("goBack(" + a + ")", x.goBack(a), m.goBack(a));
                break;
            default:
                if (random.nextInt(8) == 0) {
                    tell(random.nextBoolean() ? broken(text()) : random.nextInt(5) == 0 ? " " : text());
                }
                break;
        }
    }

    /** Mostly what could be: all as told, but for a few marks. */
    private static void callWeigh() {
        int set = random.nextInt(12) == 0 ? near(0, 255) : random.nextInt(1 << m.told(5));
        int whole = Integer.bitCount(set) * m.told(6);
        int w = random.nextInt(8) == 0 ? near(0, 999) : Math.max(0, whole - (random.nextBoolean() ? random.nextInt(10) : 0));
        check.due("weigh(" + set + ", " + w + ")", x.weigh(set, w), m.weigh(set, w));
    }

    private static void same() {
        for (int what = -1; what <= 15; what++) {
            check.due("told(" + what + ") behind '" + lastText + "'", x.told(what), m.told(what));
        }
        for (int p = 0; p < m.told(2); p++) {
            for (int what = -1; what <= 6; what++) {
                check.due("payer(" + p + ", " + what + ")", x.payer(p, what), m.payer(p, what));
            }
        }
        for (int month = -1; month <= 9; month++) {
            check.due("bid(" + month + ")", x.bid(month), m.bid(month));
        }
    }
}
