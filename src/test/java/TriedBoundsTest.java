/** The boundary cases of section 3 and of promises 16 to 25, a sentence at a time. */
public final class TriedBoundsTest {
    private static final Check check = new Check("TriedBoundsTest");
    private static final int NONE = Check.NONE, UNKNOWN = Check.UNKNOWN, OUTSIDE = Check.OUTSIDE, NOT = Check.NOT;

    private static final int LEAST = Integer.MIN_VALUE, MOST = Integer.MAX_VALUE;

    /** The most that six can have, none of whom is shy. */
    private static final String RICH = "k999 0;p999 0;p999 0;p999 0;p999 0;p999 0;p999 0;";

    public static void main(String[] args) {
        bringsBounds();
        leastRateBounds();
        leastRateJustDoes();
        rateOfMostBounds();
        spreadBounds();
        spreadOfWhom();
        spreadSteps();
        spreadRichest();
        sellBounds();
        sellNoLess();
        sellLastMonths();
        sellByD();
        sellPriceAsNow();
        homeOrderBounds();
        homeOrderOfLikeOnes();
        lettersBounds();
        lettersNoneAndAll();
        lettersBothNone();
        sparedBounds();
        sparedJustDoes();
        livesBounds();
        livesByD();
        monthsToBounds();
        monthsToCosts();
        monthsToNot();
        triedWhenFreeOrDead();
        check.end();
    }

    private static Run kept() {
        return Run.of(check, Check.WHOLE).does("seed(9)", "rate(0, 20)", "rate(2, 40)", "month(1)", "keep(0)", "hostage(2, true)", "raise(4)");
    }

    private static void bringsBounds() {
        check.part("promise 16, OUTSIDE");
        for (Run x : new Run[] {kept(), new Run(check), kept().does("dies()")}) {
            x.due("brings(-1)", OUTSIDE).due("brings(101)", OUTSIDE).due("brings(" + LEAST + ")", OUTSIDE).due("brings(" + MOST + ")", OUTSIDE);
        }
        Run.of(check, "k1 0;p100 0;").due("brings(0)", 0).due("brings(1)", 1).due("brings(99)", 99).due("brings(100)", 100);
        Run.of(check, RICH).due("brings(0)", 0).due("brings(1)", 54).due("brings(100)", 5994);
        check.part("section 3, BRINGS without PAYERS");
        Run.of(check, "k1 0;").due("brings(0)", 0).due("brings(100)", 0);
        new Run(check).due("brings(0)", 0).due("brings(100)", 0);
    }

    private static void leastRateBounds() {
        check.part("promise 17, so much (0 .. 9999), OUTSIDE");
        for (Run x : new Run[] {kept(), new Run(check), kept().does("dies()")}) {
            x.due("leastRate(-1)", OUTSIDE).due("leastRate(10000)", OUTSIDE).due("leastRate(" + LEAST + ")", OUTSIDE).due("leastRate(" + MOST + ")", OUTSIDE);
            x.due("leastRate(0)", 0).due("leastRate(9999)", NONE);
        }
    }

    private static void leastRateJustDoes() {
        check.part("section 3, the least r (0 .. 100) by which so much comes; NONE");
        Run x = Run.of(check, "k1 0;p100 0;");
        x.due("leastRate(0)", 0).due("leastRate(1)", 1).due("leastRate(2)", 2).due("leastRate(99)", 99).due("leastRate(100)", 100).due("leastRate(101)", NONE);
        Run.of(check, RICH).due("leastRate(5994)", 100).due("leastRate(5995)", NONE).due("leastRate(5993)", 100);
        Run.of(check, "k1 0;p1 0;").due("leastRate(1)", 100).due("leastRate(2)", NONE);
        Run.of(check, "k1 0;p0 0;").due("leastRate(0)", 0).due("leastRate(1)", NONE);
        check.part("section 3, less may come by more");
        // of 10 goods he tells 9 at 12, 7 at 29, 1 at 100
        Run shy = Run.of(check, "k1 0;p10 9;").due("rateOfMost()", 29).due("brings(29)", 2).due("brings(100)", 1);
        shy.due("leastRate(1)", 12).due("leastRate(2)", 29).due("leastRate(3)", NONE);
        new Run(check).due("leastRate(0)", 0).due("leastRate(1)", NONE);
    }

    private static void rateOfMostBounds() {
        check.part("promise 18, of like ones the least");
        new Run(check).due("rateOfMost()", 0);
        Run.of(check, "k1 0;").due("rateOfMost()", 0);
        Run.of(check, "k1 0;p0 0;p0 9;").due("rateOfMost()", 0);
        Run.of(check, "k1 0;p1 0;").due("rateOfMost()", 100);
        Run.of(check, "k1 0;p2 0;").due("rateOfMost()", 100);
        Run.of(check, "k1 0;p100 0;").due("rateOfMost()", 100);
        // one mark told whole only below 12, where it pays nothing
        Run.of(check, "k1 0;p1 9;").due("rateOfMost()", 0);
        Run.of(check, "k1 0;p10 9;").due("rateOfMost()", 29);
        check.part("section 3, from now");
        Run.of(check, "k1 0;p100 0;p10 9;").does("rate(0, 100)", "month(1)").due("rateOfMost()", 29);
    }

    private static void spreadBounds() {
        check.part("promise 19, so much (0 .. 9999), OUTSIDE");
        for (Run x : new Run[] {kept(), kept().does("dies()")}) {
            for (int p = -1; p <= 2; p++) {
                x.due("spread(-1, " + p + ")", OUTSIDE).due("spread(10000, " + p + ")", OUTSIDE).due("spread(9999, " + p + ")", NONE);
                x.due("spread(0, " + p + ")", 0);
            }
            x.due("spread(" + LEAST + ", 0)", OUTSIDE).due("spread(" + MOST + ", 0)", OUTSIDE);
        }
        new Run(check).due("spread(-1, -1)", OUTSIDE).due("spread(10000, -1)", OUTSIDE).due("spread(9999, -1)", NONE).due("spread(0, -1)", 0).due("spread(1, -1)", NONE);
        Run.of(check, "k1 0;").due("spread(0, -1)", 0).due("spread(1, -1)", NONE).due("spread(0, 0)", UNKNOWN);
    }

    private static void spreadOfWhom() {
        check.part("promise 19, UNKNOWN (p = NONE is none)");
        Run x = kept().due("spread(0, -2)", UNKNOWN).due("spread(0, -1)", 0).due("spread(0, 2)", 0).due("spread(0, 3)", UNKNOWN);
        x.due("spread(0, " + LEAST + ")", UNKNOWN).due("spread(0, " + MOST + ")", UNKNOWN);
        check.part("promise 19, UNKNOWN ahead of OUTSIDE, and of NONE");
        x.due("spread(-1, 3)", UNKNOWN).due("spread(10000, -2)", UNKNOWN).due("spread(9999, 3)", UNKNOWN).due("spread(9999, -2)", UNKNOWN);
    }

    private static void spreadSteps() {
        check.part("section 3, RATES of 0, 25, 50, 75 or 100 by which so much comes");
        Run x = Run.of(check, "k1 0;p100 0;");
        int[] much = {0, 1, 24, 25, 26, 50, 51, 75, 76, 99, 100, 101};
        int[] rates = {0, 25, 25, 25, 50, 50, 75, 75, 100, 100, 100, NONE};
        for (int i = 0; i < much.length; i++) {
            x.due("spread(" + much[i] + ", 0)", rates[i]).due("spread(" + much[i] + ", -1)", rates[i] == NONE ? NONE : 0);
        }
        check.part("section 3, least is HIDDEN together");
        // at 25 he tells 78, at 50 55, at 75 33, at 100 10: he pays 19, 27, 24, 10
        Run shy = Run.of(check, "k1 0;p100 9;").due("spread(0, -1)", 0).due("spread(19, -1)", 22).due("spread(20, -1)", 45).due("spread(27, 0)", 50);
        shy.due("spread(28, 0)", NONE).due("spread(28, -1)", NONE);
        check.part("section 3, of like ones the first (PAYER by PAYER the lesser)");
        Run like = Run.of(check, "k1 0;p100 0;p100 0;").due("spread(100, 0)", 0).due("spread(100, 1)", 100).due("spread(101, 0)", 25).due("spread(101, 1)", 100);
        like.due("spread(200, 0)", 100).due("spread(200, 1)", 100).due("spread(201, 0)", NONE);
    }

    private static void spreadRichest() {
        check.part("section 3, SPREAD by six");
        Run x = Run.of(check, RICH).due("spread(5994, -1)", 0).due("spread(5995, -1)", NONE);
        for (int p = 0; p < 6; p++) {
            x.due("spread(5994, " + p + ")", 100).due("spread(5995, " + p + ")", NONE).due("spread(999, " + p + ")", p == 5 ? 100 : 0);
            x.due("spread(1000, " + p + ")", p == 5 ? 100 : p == 4 ? 25 : 0);
        }
        x.due("spread(5994, 6)", UNKNOWN);
        check.part("section 3, SPREAD by fewer than there were in the text ahead of it");
        x.told("k1 0;p10 0;").due("spread(10, 0)", 100).due("spread(11, 0)", NONE).due("spread(11, -1)", NONE).due("spread(10, 1)", UNKNOWN);
        x.due("spared(100, 11)", NONE).due("leastRate(11)", NONE).due("brings(100)", 10);
    }

    private static void sellBounds() {
        check.part("promise 20, MONTH m (0 .. 9), what 0, 1, OUTSIDE");
        for (Run x : new Run[] {kept(), new Run(check), kept().does("dies()")}) {
            for (int what = 0; what <= 1; what++) {
                x.due("sell(-1, " + what + ")", OUTSIDE).due("sell(10, " + what + ")", OUTSIDE);
                x.due("sell(" + LEAST + ", " + what + ")", OUTSIDE).due("sell(" + MOST + ", " + what + ")", OUTSIDE);
            }
            x.due("sell(0, -1)", OUTSIDE).due("sell(0, 2)", OUTSIDE).due("sell(9, -1)", OUTSIDE).due("sell(9, 2)", OUTSIDE);
            x.due("sell(0, " + LEAST + ")", OUTSIDE).due("sell(0, " + MOST + ")", OUTSIDE);
        }
        Run x = kept().due("sell(0, 0)", 234).due("sell(0, 1)", 1).due("sell(9, 0)", 304).due("sell(9, 1)", NONE);
        x.due("told(0)", 304);
    }

    private static void sellNoLess() {
        check.part("section 3, WHEN: the first MONTH in which the BID is no less than waiting");
        Run.of(check, "k100 10;b89;").due("sell(0, 0)", 90).due("sell(0, 1)", NONE);
        Run.of(check, "k100 10;b90;").due("sell(0, 0)", 90).due("sell(0, 1)", 0);
        Run.of(check, "k100 10;b91;").due("sell(0, 0)", 91).due("sell(0, 1)", 0);
        // waiting in month 0 is 95 times 90 / 100, cut: 85
        Run.of(check, "k100 10;b84,95;").due("sell(0, 0)", 85).due("sell(0, 1)", 1);
        Run.of(check, "k100 10;b85,95;").due("sell(0, 0)", 85).due("sell(0, 1)", 0).due("sell(1, 1)", 1);
        Run.of(check, "k100 10;b86,95;").due("sell(0, 0)", 86).due("sell(0, 1)", 0).due("sell(1, 0)", 95);
        check.part("section 3, WHEN: from m on, not ahead of it");
        Run.of(check, "k100 0;b999,0;").due("sell(0, 1)", 0).due("sell(1, 1)", NONE).due("sell(1, 0)", 100);
    }

    private static void sellLastMonths() {
        check.part("section 3, behind the last BID; in a MONTH behind all BIDS, PRICE");
        Run none = Run.of(check, "k70 50;");
        Run one = Run.of(check, "k70 50;b1;").due("sell(0, 0)", 35).due("sell(0, 1)", NONE);
        Run nine = Run.of(check, "k70 50;b1,1,1,1,1,1,1,1,36;");
        for (int m = 0; m <= 9; m++) {
            none.due("sell(" + m + ", 0)", 70).due("sell(" + m + ", 1)", NONE);
            if (m > 0) {
                one.due("sell(" + m + ", 0)", 70).due("sell(" + m + ", 1)", NONE);
            }
        }
        nine.due("sell(9, 0)", 70).due("sell(9, 1)", NONE).due("sell(8, 0)", 36).due("sell(8, 1)", 8).due("sell(7, 0)", 18).due("sell(7, 1)", 8);
        // 36, 18, 9, 4, 2, 1: there a bid of 1 is no less than waiting
        nine.dues("sell(", 0, ", 0)", 1, 1, 1, 1, 2, 4, 9, 18, 36, 70).dues("sell(", 0, ", 1)", 0, 1, 2, 3, 8, 8, 8, 8, 8, NONE);
    }

    private static void sellByD() {
        check.part("section 3, waiting by D of 0 and of 99, cut");
        Run.of(check, "k999 0;b998;").due("sell(0, 0)", 999).due("sell(0, 1)", NONE);
        Run.of(check, "k999 0;b999;").due("sell(0, 0)", 999).due("sell(0, 1)", 0);
        Run.of(check, "k999 99;b8;").due("sell(0, 0)", 9).due("sell(0, 1)", NONE);
        Run.of(check, "k999 99;b9;").due("sell(0, 0)", 9).due("sell(0, 1)", 0);
        Run.of(check, "k99 99;b0;").due("sell(0, 0)", 0).due("sell(0, 1)", 0);
        Run.of(check, "k100 99;b0;").due("sell(0, 0)", 1).due("sell(0, 1)", NONE);
        Run.of(check, "k1 99;b0,0,0,0,0,0,0,0,0;").due("sell(0, 0)", 0).due("sell(0, 1)", 0).due("sell(8, 1)", 8).due("sell(9, 0)", 1);
    }

    private static void sellPriceAsNow() {
        check.part("section 3, PRICE as now, 9999 at most");
        Run x = Run.of(check, "k999 1;b999;").times(10, "raise(999)");
        x.due("told(0)", 9999).due("sell(0, 0)", 9899).due("sell(0, 1)", NONE).due("sell(1, 0)", 9999);
        Run y = Run.of(check, "k1 0;b1;").due("sell(0, 1)", 0).does("raise(1)").due("sell(0, 1)", NONE).due("sell(0, 0)", 2).does("undo()").due("sell(0, 1)", 0);
        check.part("section 3, MONTHS that have gone by are none of m's");
        y.does("month(24)").due("sell(0, 1)", 0).due("sell(1, 1)", NONE);
    }

    private static void homeOrderBounds() {
        check.part("promise 21, NONE: not so many (i below NONE, too)");
        Run x = Run.of(check, "k1 0;h99;h98;h97;h3;h2;h1;").due("homeOrder(-1)", 0).due("homeOrder(0)", NONE).due("homeOrder(-2)", NONE);
        x.does("hostage(0, true)").due("homeOrder(-1)", 99).due("homeOrder(0)", 0).due("homeOrder(1)", NONE);
        x.does("hostage(5, true)").due("homeOrder(-1)", 101).due("homeOrder(0)", 5).due("homeOrder(1)", 0).due("homeOrder(2)", NONE);
        x.does("hostage(1, true)", "hostage(2, true)", "hostage(3, true)", "hostage(4, true)");
        x.due("homeOrder(-1)", 1 + 3 + 6 + 103 + 201 + 300).dues("homeOrder(", 0, ")", 5, 4, 3, 2, 1, 0, NONE, NONE);
        x.due("homeOrder(-2)", NONE).due("homeOrder(-3)", NONE).due("homeOrder(" + LEAST + ")", NONE).due("homeOrder(" + MOST + ")", NONE);
        new Run(check).due("homeOrder(-2)", NONE).due("homeOrder(-1)", 0).due("homeOrder(0)", NONE);
        Run.of(check, "k1 0;").due("homeOrder(-2)", NONE).due("homeOrder(-1)", 0).due("homeOrder(0)", NONE);
    }

    private static void homeOrderOfLikeOnes() {
        check.part("section 3, of like ones the first (the lesser HOSTAGE first)");
        Run x = Run.of(check, "k1 0;h99;h99;h99;h99;h99;h99;");
        x.does("hostage(5, true)", "hostage(3, true)", "hostage(4, true)", "hostage(0, true)", "hostage(2, true)", "hostage(1, true)");
        x.due("homeOrder(-1)", 99 * 21).dues("homeOrder(", 0, ")", 0, 1, 2, 3, 4, 5, NONE);
        check.part("section 3, HOSTAGES that are GIVEN alone");
        x.does("hostage(0, false)", "hostage(3, false)").due("homeOrder(-1)", 99 * 10).dues("homeOrder(", 0, ")", 1, 2, 4, 5, NONE);
    }

    private static void lettersBounds() {
        check.part("promise 22, OUTSIDE (0 .. 100; n 0 .. 9; k 0 .. n, too)");
        for (Run x : new Run[] {new Run(check), kept()}) {
            for (int wrong : new int[] {-1, 101, LEAST, MOST}) {
                x.due("letters(" + wrong + ", 50, 50, 5, 3)", OUTSIDE).due("letters(50, " + wrong + ", 50, 5, 3)", OUTSIDE);
                x.due("letters(50, 50, " + wrong + ", 5, 3)", OUTSIDE);
            }
            x.due("letters(50, 50, 50, -1, 0)", OUTSIDE).due("letters(50, 50, 50, -1, -1)", OUTSIDE).due("letters(50, 50, 50, 10, 0)", OUTSIDE);
            x.due("letters(50, 50, 50, 10, 10)", OUTSIDE).due("letters(50, 50, 50, " + MOST + ", 0)", OUTSIDE).due("letters(50, 50, 50, " + LEAST + ", 0)", OUTSIDE);
            for (int n : new int[] {0, 1, 9}) {
                x.due("letters(50, 50, 50, " + n + ", -1)", OUTSIDE).due("letters(50, 50, 50, " + n + ", " + (n + 1) + ")", OUTSIDE);
                x.due("letters(50, 50, 50, " + n + ", 0)", 500000).due("letters(50, 50, 50, " + n + ", " + n + ")", 500000);
            }
            x.due("letters(50, 50, 50, 9, " + MOST + ")", OUTSIDE).due("letters(50, 50, 50, 9, " + LEAST + ")", OUTSIDE);
        }
    }

    private static void lettersNoneAndAll() {
        check.part("promise 22, p, a and b at 0 and 100");
        Run x = new Run(check);
        x.due("letters(0, 50, 50, 0, 0)", 0).due("letters(1, 50, 50, 0, 0)", 10000).due("letters(99, 50, 50, 0, 0)", 990000).due("letters(100, 50, 50, 0, 0)", 1000000);
        x.due("letters(50, 100, 0, 1, 1)", 1000000).due("letters(50, 100, 0, 1, 0)", 0).due("letters(50, 0, 100, 1, 1)", 0).due("letters(50, 0, 100, 1, 0)", 1000000);
        x.due("letters(50, 100, 100, 9, 9)", 500000).due("letters(50, 0, 0, 9, 0)", 500000).due("letters(100, 100, 0, 9, 9)", 1000000).due("letters(0, 0, 100, 9, 9)", 0);
        check.part("section 3, LETTERS: each cut");
        // a billion by 1 of a hundred is 10000000, 100000, 1000, 10 and 0 behind the fifth
        x.due("letters(100, 1, 50, 4, 4)", 1000000).due("letters(100, 1, 50, 5, 5)", 0).due("letters(99, 1, 100, 4, 4)", 9 * 1000000 / (9 + 10000000));
        // half a billion by 1: 5000000, 50000, 500, 5; by 2: 10000000, 200000, 4000, 80
        x.due("letters(50, 1, 2, 4, 4)", 5 * 1000000 / 85).due("letters(50, 99, 98, 4, 0)", 5 * 1000000 / 85);
        x.due("letters(50, 1, 2, 5, 5)", 0).due("letters(50, 2, 1, 5, 5)", 1000000).due("letters(50, 2, 1, 6, 6)", 0);
        check.part("section 3, those that said so first");
        // 10000000 by 7 thrice is 700000, 49000, 3430, then by 93 twice 3189, 2965; the other by 50: 495000000 .. 30937500
        x.due("letters(1, 7, 50, 5, 3)", (int) (2965L * 1000000L / (2965L + 30937500L)));
    }

    private static void lettersBothNone() {
        check.part("promise 22, 0, if both are 0");
        Run x = new Run(check);
        x.due("letters(50, 0, 0, 1, 1)", 0).due("letters(50, 100, 100, 1, 0)", 0).due("letters(0, 50, 0, 1, 1)", 0).due("letters(100, 0, 50, 1, 1)", 0);
        x.due("letters(50, 1, 1, 9, 9)", 0).due("letters(50, 99, 99, 9, 0)", 0).due("letters(100, 100, 100, 9, 8)", 0);
    }

    private static void sparedBounds() {
        check.part("promise 23, r 0 .. 100, so much (0 .. 9999), OUTSIDE");
        for (Run x : new Run[] {kept(), new Run(check), kept().does("dies()")}) {
            x.due("spared(-1, 0)", OUTSIDE).due("spared(101, 0)", OUTSIDE).due("spared(0, -1)", OUTSIDE).due("spared(0, 10000)", OUTSIDE);
            x.due("spared(100, -1)", OUTSIDE).due("spared(100, 10000)", OUTSIDE).due("spared(-1, -1)", OUTSIDE).due("spared(101, 10000)", OUTSIDE);
            x.due("spared(" + LEAST + ", 0)", OUTSIDE).due("spared(" + MOST + ", 0)", OUTSIDE).due("spared(0, " + LEAST + ")", OUTSIDE).due("spared(0, " + MOST + ")", OUTSIDE);
            x.due("spared(100, 9999)", NONE).due("spared(0, 1)", NONE);
        }
        kept().due("spared(0, 0)", 7).due("spared(100, 0)", 7);
        new Run(check).due("spared(0, 0)", 0).due("spared(100, 0)", 0).due("spared(100, 1)", NONE);
    }

    private static void sparedJustDoes() {
        check.part("section 3, as many as can be; of like ones the least; NONE: not even by all");
        Run x = Run.of(check, RICH).due("spared(100, 0)", 63).due("spared(100, 1)", 31).due("spared(100, 999)", 31).due("spared(100, 1000)", 15);
        x.due("spared(100, 4995)", 1).due("spared(100, 4996)", 0).due("spared(100, 5994)", 0).due("spared(100, 5995)", NONE);
        Run y = Run.of(check, "k1 0;p10 0;p30 0;p20 0;").due("spared(100, 30)", 5).due("spared(100, 31)", 1).due("spared(100, 20)", 3).due("spared(100, 21)", 5);
        y.due("spared(100, 10)", 3).due("spared(100, 11)", 3).due("spared(100, 50)", 1).due("spared(100, 51)", 0).due("spared(100, 61)", NONE);
        check.part("section 3, who pays none is spared first");
        Run.of(check, "k1 0;p0 0;p9 0;").due("spared(100, 9)", 1).due("spared(100, 10)", NONE).due("spared(0, 0)", 3);
    }

    private static void livesBounds() {
        check.part("promise 24, n MONTHS (0 .. 60), OUTSIDE");
        for (Run x : new Run[] {kept(), new Run(check), kept().does("dies()")}) {
            x.due("lives(-1)", OUTSIDE).due("lives(61)", OUTSIDE).due("lives(" + LEAST + ")", OUTSIDE).due("lives(" + MOST + ")", OUTSIDE).due("lives(0)", 1000000);
        }
        kept().due("lives(1)", 900000).due("lives(2)", 810000).due("lives(60)", 1792);
    }

    private static void livesByD() {
        check.part("section 3, LIVES by D of 0 and of 99, each cut");
        Run.of(check, "k1 0;").due("lives(0)", 1000000).due("lives(1)", 1000000).due("lives(60)", 1000000);
        Run.of(check, "k1 99;").dues("lives(", 0, ")", 1000000, 10000, 100, 1, 0, 0).due("lives(60)", 0);
        Run.of(check, "k1 1;").due("lives(60)", livesOf(60));
        new Run(check).due("lives(60)", 1000000);
    }

    private static int livesOf(int months) {
        int left = 1000000;
        for (int i = 0; i < months; i++) {
            left -= (left + 99) / 100;
        }
        return left;
    }

    private static void monthsToBounds() {
        check.part("section 3, the fewest MONTHS (0 .. 99); NONE");
        // 199 goods at 1 of a hundred pay 1 a month, as long as they are 100 or more
        Run x = Run.of(check, "k98 0;p199 0;").due("monthsTo()", NONE).does("rate(0, 1)").due("monthsTo()", 98);
        x.does("raise(1)").due("monthsTo()", 99).does("raise(1)").due("monthsTo()", NONE).does("month(1)").due("monthsTo()", 99).due("told(8)", 1);
        x.does("raise(1)").due("monthsTo()", NONE).does("month(1)").due("monthsTo()", NONE);
        check.part("section 3, 0 MONTHS: THE CHEST has it now");
        Run y = Run.of(check, "k50 0;p50 0;").does("rate(0, 100)").due("monthsTo()", 1).does("month(1)").due("monthsTo()", 0);
        y.does("raise(1)").due("monthsTo()", NONE);
        check.part("section 3, above 9000 MONTHS, too");
        Run.of(check, "k1 0;p9 0;").times(375, "month(24)").does("month(24)").due("monthsTo()", NONE).does("rate(0, 100)").due("monthsTo()", 1);
    }

    private static void monthsToCosts() {
        check.part("section 3, what it costs to be FREED, 0 at least");
        Run x = Run.of(check, "k11 0;p100 0;h1;h1;").does("rate(0, 1)").due("monthsTo()", NONE).does("hostage(0, true)").due("monthsTo()", 1);
        x.does("hostage(1, true)").due("monthsTo()", 0);
        Run.of(check, "k10 0;h1;").due("monthsTo()", NONE).does("hostage(0, true)").due("monthsTo()", 0);
        Run.of(check, "k1 0;h1;").does("hostage(0, true)").due("monthsTo()", 0);
        Run.of(check, "k1 0;").due("monthsTo()", NONE);
    }

    private static void monthsToNot() {
        check.part("promise 25, NOT: no RANSOM, he is free or DEAD");
        new Run(check).due("monthsTo()", NOT);
        Run.of(check, "k1 0;h1;").does("hostage(0, true)", "free()").due("monthsTo()", NOT).does("undo()").due("monthsTo()", 0);
        kept().does("dies()").due("monthsTo()", NOT).does("undo()").due("monthsTo()", 1);
        Run.of(check, "k1 0;").told(" ").due("monthsTo()", NOT);
    }

    private static void triedWhenFreeOrDead() {
        check.part("section 3, what is tried is tried when he is free or DEAD, too");
        Run free = Run.of(check, "k5 10;p100 0;h3;b4,5;").does("hostage(0, true)", "free()");
        Run dead = Run.of(check, "k5 10;p100 0;h3;b4,5;").does("hostage(0, true)", "dies()");
        for (Run x : new Run[] {free, dead}) {
            x.due("brings(10)", 10).due("leastRate(10)", 10).due("rateOfMost()", 100).due("spread(25, 0)", 25).due("sell(0, 0)", 4).due("sell(1, 0)", 5);
            x.due("homeOrder(-1)", 3).due("spared(10, 0)", 1).due("lives(1)", 900000).due("isShort(-1)", 0).due("judge()", NONE);
        }
    }
}
