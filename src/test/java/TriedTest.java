/** Promises 16 to 25: what is tried from now, by which nothing changes. */
public final class TriedTest {
    private static final Check check = new Check("TriedTest");

    public static void main(String[] args) {
        brings();
        leastRate();
        rateOfMost();
        spread();
        spreadOfLikeOnes();
        sell();
        sellEdges();
        homeOrder();
        letters();
        spared();
        lives();
        monthsTo();
        nothingChanges();
        check.end();
    }

    private static void brings() {
        check.part("promise 16");
        KingRansom x = Check.of(Check.WHOLE);
        check.due("brings(0)", x.brings(0), 0);
        check.due("brings(50)", x.brings(50), 180 + 24 + 125);
        check.due("brings(100)", x.brings(100), 320 + 9 + 250);
        check.due("brings(-1)", x.brings(-1), Check.OUTSIDE);
        check.due("brings(101)", x.brings(101), Check.OUTSIDE);
        x.rate(2, 100);
        x.month(1);
        check.due("brings(100) from now", x.brings(100), 320 + 9);
        x.dies();
        check.due("brings(100) of the dead", x.brings(100), 320 + 9);
        check.due("brings(50) of six", Check.of("k1 1;p10 0;p20 0;p30 0;p40 0;p50 0;p60 0;").brings(50), 105);
    }

    private static void leastRate() {
        check.part("promise 17");
        KingRansom x = Check.of(Check.WHOLE);
        check.due("leastRate(0)", x.leastRate(0), 0);
        check.due("leastRate(0) without payers", new KingRansom().leastRate(0), 0);
        check.due("leastRate(100)", x.leastRate(100), 14);
        check.due("leastRate(579)", x.leastRate(579), 100);
        check.due("leastRate(580)", x.leastRate(580), Check.NONE);
        check.due("leastRate(9999)", x.leastRate(9999), Check.NONE);
        check.due("leastRate(10000)", x.leastRate(10000), Check.OUTSIDE);
        check.due("leastRate(-1)", x.leastRate(-1), Check.OUTSIDE);
        // of the shyest less comes by 100 than by some lesser rate
        KingRansom y = Check.of("k1 1;p999 9;");
        check.due("leastRate of the most", y.leastRate(y.brings(y.rateOfMost())), y.rateOfMost());
        check.due("leastRate above the most", y.leastRate(y.brings(y.rateOfMost()) + 1), Check.NONE);
    }

    private static void rateOfMost() {
        check.part("promise 18");
        check.due("rateOfMost() of shy none", Check.of("k1 1;p100 0;").rateOfMost(), 100);
        check.due("rateOfMost() of one mark", Check.of("k1 1;p1 0;").rateOfMost(), 100);
        // 10 marks, shy 9: at 29 he tells 7 and pays 2, and no rate brings 3
        check.due("rateOfMost() of like ones", Check.of("k1 1;p10 9;").rateOfMost(), 29);
        check.due("rateOfMost() without goods", Check.of("k1 1;p0 0;").rateOfMost(), 0);
        KingRansom x = Check.of("k1 1;p100 9;");
        int best = 0;
        for (int r = 0; r <= 100; r++) {
            int comes = 100 * (100 - 9 * r / 10) / 100 * r / 100;
            int most = 100 * (100 - 9 * best / 10) / 100 * best / 100;
            best = comes > most ? r : best;
        }
        check.due("rateOfMost() of the shy", x.rateOfMost(), best);
        check.due("brings() of it", x.brings(best), 28);
    }

    private static void spread() {
        check.part("promise 19");
        KingRansom x = Check.of(Check.WHOLE);
        check.due("spread(0, -1)", x.spread(0, -1), 0);
        for (int p = 0; p < 3; p++) {
            check.due("spread(0, p)", x.spread(0, p), 0);
        }
        check.due("spread(250, -1)", x.spread(250, -1), 0);
        check.due("spread(250, 2)", x.spread(250, 2), 100);
        // one more than the third has: the first at 25 tells 380, pays 95
        check.due("spread(251, -1)", x.spread(251, -1), 20);
        check.due("spread(251, 0)", x.spread(251, 0), 0);
        check.due("spread(251, 1)", x.spread(251, 1), 25);
        check.due("spread(251, 2)", x.spread(251, 2), 100);
        // 320 by the first at 100, 24 by the second at 50 (or 75), 250
        check.due("spread(594, -1)", x.spread(594, -1), 80 + 41);
        check.due("spread(594, 1)", x.spread(594, 1), 50);
        check.due("spread(595, -1)", x.spread(595, -1), Check.NONE);
        check.due("spread(595, 0)", x.spread(595, 0), Check.NONE);
        check.due("spread(595, 3)", x.spread(595, 3), Check.UNKNOWN);
        check.due("spread(0, -2)", x.spread(0, -2), Check.UNKNOWN);
        check.due("spread(-1, -2)", x.spread(-1, -2), Check.UNKNOWN);
        check.due("spread(-1, 0)", x.spread(-1, 0), Check.OUTSIDE);
        check.due("spread(10000, -1)", x.spread(10000, -1), Check.OUTSIDE);
        check.due("spread(9999, -1)", x.spread(9999, -1), Check.NONE);
    }

    private static void spreadOfLikeOnes() {
        check.part("promise 19, of like ones the first");
        KingRansom x = Check.of("k1 1;p100 0;p100 0;p100 0;");
        int[] due = {0, 50, 100};
        for (int p = 0; p < 3; p++) {
            check.due("spread(150, " + p + ")", x.spread(150, p), due[p]);
        }
        check.due("spread(150, -1)", x.spread(150, -1), 0);
        KingRansom six = Check.of("k1 1;p10 9;p10 9;p10 9;p10 9;p10 9;p10 9;");
        // at 25: 78 of a hundred, 7 told, 1 paid; at 50: 55, 5 told, 2 paid; at 75: 33, 3, 2; at 100: 1, 1
        check.due("spread(3, -1)", six.spread(3, -1), 8);
        int[] three = {0, 0, 0, 0, 25, 50};
        for (int p = 0; p < 6; p++) {
            check.due("spread(3, " + p + ")", six.spread(3, p), three[p]);
        }
    }

    private static void sell() {
        check.part("promise 20");
        KingRansom x = Check.of(Check.WHOLE);
        int[] worth = {234, 260, 252, 280, 300, 300, 300, 300, 300, 300};
        int[] when = {1, 1, 3, 3, -1, -1, -1, -1, -1, -1};
        for (int m = 0; m <= 9; m++) {
            check.due("sell(" + m + ", 0)", x.sell(m, 0), worth[m]);
            check.due("sell(" + m + ", 1)", x.sell(m, 1), when[m]);
        }
        check.due("sell(-1, 0)", x.sell(-1, 0), Check.OUTSIDE);
        check.due("sell(10, 0)", x.sell(10, 0), Check.OUTSIDE);
        check.due("sell(0, 2)", x.sell(0, 2), Check.OUTSIDE);
        check.due("sell(0, -1)", x.sell(0, -1), Check.OUTSIDE);
        x.raise(12);
        // 312 times 90 / 100 is 280: the bid is no less
        check.due("sell(3, 1) at 312", x.sell(3, 1), 3);
        x.raise(1);
        // 313 times 90 / 100 is 281
        check.due("sell(3, 0) at 313", x.sell(3, 0), 281);
        check.due("sell(3, 1) at 313", x.sell(3, 1), Check.NONE);
        check.due("sell(0, 1) at 313", x.sell(0, 1), 1);
        check.due("sell(4, 0) at 313", x.sell(4, 0), 313);
    }

    private static void sellEdges() {
        check.part("promise 20, edges");
        KingRansom none = Check.of("k77 50;");
        check.due("sell(0, 0) without bids", none.sell(0, 0), 77);
        check.due("sell(0, 1) without bids", none.sell(0, 1), Check.NONE);
        KingRansom zero = Check.of("k1 99;b0,0;");
        check.due("a bid of 0 is no less than 0", zero.sell(0, 1), 0);
        check.due("sell(0, 0)", zero.sell(0, 0), 0);
        KingRansom like = Check.of("k100 0;b100,100;");
        check.due("the first of like ones", like.sell(0, 1), 0);
        like.month(24);
        check.due("months gone by do not count", like.sell(1, 1), 1);
        KingRansom nine = Check.of("k10 0;b1,2,3,4,5,6,7,8,9;");
        check.due("sell(8, 0)", nine.sell(8, 0), 10);
        check.due("sell(8, 1)", nine.sell(8, 1), Check.NONE);
        check.due("sell(9, 0)", nine.sell(9, 0), 10);
    }

    private static void homeOrder() {
        check.part("promise 21");
        KingRansom x = Check.of("k1 1;h9;h3;h3;h99;h1;h3;");
        check.due("homeOrder(-1) of none", x.homeOrder(-1), 0);
        check.due("homeOrder(0) of none", x.homeOrder(0), Check.NONE);
        for (int h = 5; h >= 0; h--) {
            x.hostage(h, true);
        }
        int[] due = {4, 1, 2, 5, 0, 3};
        for (int i = 0; i < 6; i++) {
            check.due("homeOrder(" + i + ")", x.homeOrder(i), due[i]);
        }
        check.due("homeOrder(-1)", x.homeOrder(-1), 1 + 4 + 7 + 10 + 19 + 118);
        check.due("homeOrder(6)", x.homeOrder(6), Check.NONE);
        check.due("homeOrder(-2)", x.homeOrder(-2), Check.NONE);
        check.due("homeOrder(least)", x.homeOrder(Integer.MIN_VALUE), Check.NONE);
        check.due("homeOrder(most)", x.homeOrder(Integer.MAX_VALUE), Check.NONE);
        x.hostage(4, false);
        x.hostage(1, false);
        check.due("homeOrder(0)", x.homeOrder(0), 2);
        check.due("homeOrder(3)", x.homeOrder(3), 3);
        check.due("homeOrder(4)", x.homeOrder(4), Check.NONE);
        check.due("homeOrder(-1)", x.homeOrder(-1), 3 + 6 + 15 + 114);
    }

    private static void letters() {
        check.part("promise 22");
        KingRansom x = new KingRansom();
        check.due("letters(30, 80, 20, 5, 4)", x.letters(30, 80, 20, 5, 4), 964824);
        check.due("letters(30, 80, 20, 0, 0)", x.letters(30, 80, 20, 0, 0), 300000);
        check.due("letters(0, 100, 100, 9, 9)", x.letters(0, 100, 100, 9, 9), 0);
        check.due("letters(100, 100, 100, 9, 9)", x.letters(100, 100, 100, 9, 9), 1000000);
        check.due("both are 0", x.letters(50, 0, 0, 1, 1), 0);
        check.due("both are 0", x.letters(50, 100, 100, 1, 0), 0);
        check.due("letters(33, 1, 2, 9, 9) is cut to 0", x.letters(33, 1, 2, 9, 9), 0);
        // 990000000: by 7 four times 23769, 1663, ..; cut at each
        check.due("letters(99, 7, 93, 9, 5)", x.letters(99, 7, 93, 9, 5), slowly(99, 7, 93, 9, 5));
        for (int p = 0; p <= 100; p += 9) {
            for (int n = 0; n <= 9; n++) {
                for (int k = 0; k <= n; k++) {
                    check.due("letters(" + p + ", 13, 7, " + n + ", " + k + ")", x.letters(p, 13, 7, n, k), slowly(p, 13, 7, n, k));
                }
            }
        }
        int[][] wrong = {{-1, 0, 0, 0, 0}, {101, 0, 0, 0, 0}, {0, -1, 0, 0, 0}, {0, 101, 0, 0, 0}, {0, 0, -1, 0, 0}, {0, 0, 101, 0, 0},
            {0, 0, 0, -1, 0}, {0, 0, 0, 10, 0}, {0, 0, 0, 9, 10}, {0, 0, 0, 0, 1}, {0, 0, 0, 5, -1}, {0, 0, 0, 5, 6}};
        for (int[] w : wrong) {
            check.due("letters out of bounds", x.letters(w[0], w[1], w[2], w[3], w[4]), Check.OUTSIDE);
        }
    }

    private static int slowly(int p, int a, int b, int n, int k) {
        java.math.BigInteger lies = part(p, a, n, k);
        java.math.BigInteger both = lies.add(part(100 - p, b, n, k));
        return both.signum() == 0 ? 0 : lies.multiply(java.math.BigInteger.valueOf(1000000)).divide(both).intValueExact();
    }

    private static java.math.BigInteger part(int share, int says, int n, int k) {
        java.math.BigInteger hundred = java.math.BigInteger.valueOf(100);
        java.math.BigInteger part = java.math.BigInteger.valueOf(1000000000L).multiply(java.math.BigInteger.valueOf(share)).divide(hundred);
        for (int i = 0; i < k; i++) {
            part = part.multiply(java.math.BigInteger.valueOf(says)).divide(hundred);
        }
        for (int i = k; i < n; i++) {
            part = part.multiply(java.math.BigInteger.valueOf(100 - says)).divide(hundred);
        }
        return part;
    }

    private static void spared() {
        check.part("promise 23");
        KingRansom x = Check.of(Check.WHOLE);
        check.due("spared(50, 0)", x.spared(50, 0), 7);
        check.due("spared(50, 24)", x.spared(50, 24), 3);
        check.due("spared(50, 126)", x.spared(50, 126), 6);
        check.due("spared(50, 181)", x.spared(50, 181), 2);
        check.due("spared(50, 306)", x.spared(50, 306), 0);
        check.due("spared(50, 305)", x.spared(50, 305), 2);
        check.due("spared(50, 329)", x.spared(50, 329), 0);
        check.due("spared(50, 330)", x.spared(50, 330), Check.NONE);
        check.due("spared(0, 1)", x.spared(0, 1), Check.NONE);
        check.due("spared(0, 0)", x.spared(0, 0), 7);
        check.due("spared(-1, 0)", x.spared(-1, 0), Check.OUTSIDE);
        check.due("spared(101, 0)", x.spared(101, 0), Check.OUTSIDE);
        check.due("spared(0, -1)", x.spared(0, -1), Check.OUTSIDE);
        check.due("spared(0, 10000)", x.spared(0, 10000), Check.OUTSIDE);
        check.due("spared(100, 9999)", x.spared(100, 9999), Check.NONE);
        KingRansom like = Check.of("k1 1;p50 0;p50 0;p50 0;p50 0;");
        check.due("the least of like ones", like.spared(100, 100), 3);
        check.due("the least of like ones", like.spared(100, 101), 1);
        like.rate(3, 100);
        like.month(1);
        check.due("from now", like.spared(100, 50), 11);
    }

    private static void lives() {
        check.part("promise 24");
        KingRansom x = Check.of(Check.WHOLE);
        check.due("lives(0)", x.lives(0), 1000000);
        check.due("lives(1)", x.lives(1), 900000);
        check.due("lives(12)", x.lives(12), 282428);
        check.due("lives(-1)", x.lives(-1), Check.OUTSIDE);
        check.due("lives(61)", x.lives(61), Check.OUTSIDE);
        KingRansom y = Check.of("k1 33;");
        // 670000, 448900, 300763, 201511, 135012: cut at each
        check.due("lives(4)", y.lives(4), 201511);
        check.due("lives(5)", y.lives(5), 135012);
        check.due("lives(60)", y.lives(60), 0);
        check.due("lives(60) by 0", Check.of("k1 0;").lives(60), 1000000);
        y.dies();
        check.due("lives(4) of the dead", y.lives(4), 201511);
    }

    private static void monthsTo() {
        check.part("promise 25");
        KingRansom x = Check.of("k100 0;p999 0;h1;h1;");
        check.due("monthsTo() at rates of 0", x.monthsTo(), Check.NONE);
        x.rate(0, 1);
        // 9 a month, and less behind 99 marks
        check.due("monthsTo()", x.monthsTo(), 12);
        x.hostage(0, true);
        check.due("monthsTo() with a hostage", x.monthsTo(), 10);
        x.month(3);
        check.due("monthsTo() from now", x.monthsTo(), 7);
        x.month(7);
        check.due("monthsTo() now", x.monthsTo(), 0);
        check.due("told(8)", x.told(8), 10);
        x.free();
        check.due("monthsTo() of the free", x.monthsTo(), Check.NOT);
        x.undo();
        x.dies();
        check.due("monthsTo() of the dead", x.monthsTo(), Check.NOT);
        monthsToEdge();
    }

    private static void monthsToEdge() {
        // 199 goods at 1 of a hundred pay 1 a month, down to 99 goods
        KingRansom y = Check.of("k99 0;p199 0;h1;");
        y.rate(0, 1);
        check.due("monthsTo() of 99 months", y.monthsTo(), 99);
        y.raise(1);
        check.due("monthsTo() of 100 months", y.monthsTo(), Check.NONE);
        y.month(1);
        check.due("monthsTo() a month later", y.monthsTo(), 99);
        y.raise(1);
        check.due("monthsTo() of what never comes", y.monthsTo(), Check.NONE);
        KingRansom z = Check.of("k5 0;h1;");
        z.hostage(0, true);
        check.due("monthsTo() of nothing to pay", z.monthsTo(), 0);
    }

    private static void nothingChanges() {
        check.part("section 3");
        KingRansom x = Check.of(Check.WHOLE);
        x.seed(3);
        x.rate(0, 40);
        x.month(2);
        x.hostage(0, true);
        x.hostage(1, true);
        int[] before = all(x);
        x.brings(50);
        x.leastRate(50);
        x.rateOfMost();
        x.spread(300, 0);
        x.sell(0, 0);
        x.homeOrder(-1);
        x.letters(50, 50, 50, 5, 5);
        x.spared(50, 50);
        x.lives(50);
        x.monthsTo();
        x.isShort(-2);
        x.judge();
        int[] behind = all(x);
        for (int i = 0; i < before.length; i++) {
            check.due("what is so, " + i, behind[i], before[i]);
        }
        check.due("seed(0)", x.seed(0), 3);
    }

    private static int[] all(KingRansom x) {
        int[] row = new int[15 + 18];
        for (int what = 0; what < 15; what++) {
            row[what] = x.told(what);
        }
        for (int i = 0; i < 18; i++) {
            row[15 + i] = x.payer(i / 6, i % 6);
        }
        return row;
    }
}
