import java.math.BigInteger;

/** The boundary cases of section 2 and of promises 8 to 15, a sentence at a time. */
public final class DoneBoundsTest {
    private static final Check check = new Check("DoneBoundsTest");
    private static final int UNKNOWN = Check.UNKNOWN, OUTSIDE = Check.OUTSIDE, NOT = Check.NOT, FULL = Check.FULL;

    private static final String SIX = "k100 0;p100 0;p100 0;p100 0;p100 0;p100 0;p999 9;h1;h2;h3;h4;h5;h6;";

    public static void main(String[] args) {
        ratesAtFirst();
        rateBounds();
        rateOfWhom();
        rateAtAnyTime();
        monthBounds();
        monthNot();
        monthFull();
        monthMayPass();
        monthRefusalsInOrder();
        goodsDownToNone();
        raiseBounds();
        raiseToTheMost();
        raiseNot();
        hostageBounds();
        hostageTwice();
        hostageAtAnyTime();
        freeCosts();
        freeCostsNoneAtLeast();
        freeNot();
        freeAndDeadForGood();
        diesNot();
        driftBounds();
        driftNot();
        driftFull();
        drawsBelowD();
        drawsStopAtDeath();
        seedComesRound();
        undoNone();
        undoEach();
        undoTwenty();
        undoLosesTheOldest();
        undoSkipsRefused();
        undoLeavesTheRest();
        check.end();
    }

    private static Run kept() {
        return Run.of(check, Check.WHOLE).does("seed(9)", "rate(0, 20)", "rate(2, 40)", "month(1)", "keep(0)", "hostage(2, true)", "raise(4)",
            "weigh(3, 37)", "write(1, 90)");
    }

    private static Run free() {
        return Run.of(check, "k5 0;p50 1;h3;b4;w9 2;").does("rate(0, 3)", "keep(1)", "hostage(0, true)", "free()");
    }

    private static Run dead() {
        return kept().does("dies()");
    }

    /** 375 times 24 MONTHS have gone by. */
    private static Run at9000() {
        return Run.of(check, "k1 0;p9 0;").times(375, "month(24)");
    }

    // ---- rates

    private static void ratesAtFirst() {
        check.part("section 2, RATES are 0 at first");
        Run x = Run.of(check, SIX);
        for (int p = 0; p < 6; p++) {
            x.due("payer(" + p + ", 2)", 0).due("payer(" + p + ", 5)", 0);
        }
        x.due("month(24)", 0).due("told(9)", 0);
    }

    private static void rateBounds() {
        check.part("promise 8, a RATE 0 .. 100");
        Run x = Run.of(check, SIX).does("rate(0, 7)");
        x.due("rate(0, -1)", OUTSIDE).due("rate(0, 101)", OUTSIDE).due("rate(0, -2147483648)", OUTSIDE).due("rate(0, 2147483647)", OUTSIDE);
        x.due("payer(0, 2)", 7).due("rate(0, 0)", 7).due("payer(0, 2)", 0).due("rate(0, 1)", 0).due("rate(0, 99)", 1).due("rate(0, 100)", 99);
        x.due("payer(0, 2)", 100).due("rate(0, 100)", 100);
    }

    private static void rateOfWhom() {
        check.part("promise 8, UNKNOWN");
        Run x = Run.of(check, SIX);
        x.due("rate(-1, 5)", UNKNOWN).due("rate(6, 5)", UNKNOWN).due("rate(-2147483648, 5)", UNKNOWN).due("rate(2147483647, 5)", UNKNOWN);
        x.due("rate(0, 5)", 0).due("rate(5, 6)", 0).due("payer(0, 2)", 5).due("payer(5, 2)", 6).due("payer(1, 2)", 0);
        Run one = Run.of(check, "k1 1;p1 1;").due("rate(1, 5)", UNKNOWN).due("rate(0, 5)", 0);
        one.due("payer(0, 2)", 5);
        new Run(check).due("rate(0, 5)", UNKNOWN);
        check.part("promise 8, UNKNOWN ahead of OUTSIDE");
        x.due("rate(6, 101)", UNKNOWN).due("rate(-1, -1)", UNKNOWN);
        new Run(check).due("rate(0, 101)", UNKNOWN);
    }

    private static void rateAtAnyTime() {
        check.part("promise 8, not refused when he is free or DEAD, or above 9000 MONTHS");
        free().due("rate(0, 100)", 3).due("payer(0, 2)", 100).due("told(11)", 1).due("undo()", 2).due("payer(0, 2)", 3);
        dead().due("rate(2, 0)", 40).due("payer(2, 2)", 0).due("told(11)", 2);
        at9000().does("month(1)").due("rate(0, 1)", 0).due("payer(0, 2)", 1);
    }

    // ---- months

    private static void monthBounds() {
        check.part("promise 9, n MONTHS (1 .. 24)");
        Run x = Run.of(check, "k100 0;p999 0;").does("rate(0, 1)");
        x.due("month(0)", OUTSIDE).due("month(25)", OUTSIDE).due("month(-1)", OUTSIDE);
        x.due("month(-2147483648)", OUTSIDE).due("month(2147483647)", OUTSIDE).due("told(8)", 0).due("told(9)", 0);
        x.due("month(1)", 9).due("told(8)", 1).due("month(2)", 27).due("told(8)", 3);
        x.due("undo()", 2).due("undo()", 1).due("month(24)", chestBehind(24)).due("told(8)", 24);
    }

    private static int chestBehind(int months) {
        int goods = 999;
        for (int i = 0; i < months; i++) {
            goods -= goods / 100;
        }
        return 999 - goods;
    }

    private static void monthNot() {
        check.part("promise 9, NOT: no RANSOM, he is free or DEAD");
        new Run(check).due("month(1)", NOT).due("month(24)", NOT).due("told(8)", 0);
        free().due("month(1)", NOT).due("month(24)", NOT).due("told(8)", 0).due("told(9)", 0);
        dead().due("month(1)", NOT).due("month(24)", NOT).due("told(8)", 1);
        check.part("promise 9, OUTSIDE ahead of NOT");
        new Run(check).due("month(0)", OUTSIDE).due("month(25)", OUTSIDE);
        free().due("month(0)", OUTSIDE).due("month(25)", OUTSIDE);
        dead().due("month(0)", OUTSIDE).due("month(25)", OUTSIDE);
    }

    private static void monthFull() {
        check.part("promise 9, FULL: MONTHS are above 9000 as it is called");
        Run x = at9000();
        x.due("told(8)", 9000).due("month(1)", 0).due("told(8)", 9001);
        x.due("month(1)", FULL).due("month(24)", FULL).due("told(8)", 9001).due("told(14)", 20);
        check.part("promise 9, undone it is not FULL any more");
        x.due("undo()", 19).due("told(8)", 9000).due("month(24)", 0).due("told(8)", 9024).due("month(1)", FULL);
    }

    private static void monthMayPass() {
        check.part("promise 9, n may pass 9000");
        Run x = Run.of(check, "k1 0;p9 0;").times(374, "month(24)").does("month(23)");
        x.due("told(8)", 8999).due("month(24)", 0).due("told(8)", 9023).due("month(1)", FULL);
        Run y = Run.of(check, "k1 0;p9 0;").times(374, "month(24)").does("month(23)");
        y.due("month(1)", 0).due("told(8)", 9000).due("month(24)", 0).due("told(8)", 9024).due("month(24)", FULL);
    }

    private static void monthRefusalsInOrder() {
        check.part("promise 9, OUTSIDE, NOT, FULL in this order");
        Run x = at9000().does("month(1)");
        x.due("month(0)", OUTSIDE).due("month(25)", OUTSIDE).due("month(1)", FULL);
        x.due("dies()", 9001).due("month(1)", NOT).due("month(0)", OUTSIDE).due("drift(1)", NOT).due("drift(25)", OUTSIDE);
    }

    private static void goodsDownToNone() {
        check.part("section 2, so much his GOODS are less, down to none");
        Run x = Run.of(check, "k1 0;p999 0;p1 0;p0 0;").does("rate(0, 100)", "rate(1, 99)", "rate(2, 100)");
        x.due("month(1)", 999).due("payer(0, 0)", 0).due("payer(1, 0)", 1).due("payer(2, 0)", 0);
        x.due("month(24)", 999).due("payer(1, 0)", 1).due("rate(1, 100)", 99).due("month(1)", 1000).due("payer(1, 0)", 0).due("month(24)", 1000);
    }

    // ---- the price

    private static void raiseBounds() {
        check.part("promise 10, v 1 .. 999");
        Run x = Run.of(check, "k100 0;");
        x.due("raise(0)", OUTSIDE).due("raise(1000)", OUTSIDE).due("raise(-1)", OUTSIDE);
        x.due("raise(-2147483648)", OUTSIDE).due("raise(2147483647)", OUTSIDE).due("told(0)", 100);
        x.due("raise(1)", 101).due("raise(999)", 1100).due("told(0)", 1100);
    }

    private static void raiseToTheMost() {
        check.part("section 2, 9999 at most");
        Run x = Run.of(check, "k999 0;").times(8, "raise(999)").does("raise(998)");
        x.due("told(0)", 9989).due("raise(9)", 9998).due("raise(1)", 9999).due("raise(1)", 9999).due("raise(999)", 9999).due("told(0)", 9999);
        check.part("promise 10, at 9999 it is not refused, and can be undone");
        x.due("told(14)", 13).due("undo()", 12).due("told(0)", 9999).due("undo()", 11).due("told(0)", 9999).due("undo()", 10).due("told(0)", 9998);
        x.due("raise(2)", 9999).due("undo()", 10).due("undo()", 9).due("told(0)", 9989).due("raise(10)", 9999).due("undo()", 9).due("raise(11)", 9999);
    }

    private static void raiseNot() {
        check.part("promise 10, NOT: no RANSOM, he is free or DEAD");
        new Run(check).due("raise(1)", NOT).due("raise(999)", NOT).due("told(0)", 0);
        free().due("raise(1)", NOT).due("raise(999)", NOT).due("told(0)", 5);
        dead().due("raise(1)", NOT).due("raise(999)", NOT).due("told(0)", 304);
        check.part("promise 10, OUTSIDE ahead of NOT");
        new Run(check).due("raise(0)", OUTSIDE).due("raise(1000)", OUTSIDE);
        free().due("raise(0)", OUTSIDE).due("raise(1000)", OUTSIDE);
        dead().due("raise(0)", OUTSIDE).due("raise(1000)", OUTSIDE);
        check.part("promise 10, not FULL above 9000 MONTHS");
        at9000().does("month(1)").due("raise(1)", 2);
    }

    // ---- hostages

    private static void hostageBounds() {
        check.part("promise 11, UNKNOWN");
        Run x = Run.of(check, SIX);
        x.due("hostage(-1, true)", UNKNOWN).due("hostage(6, true)", UNKNOWN).due("hostage(-1, false)", UNKNOWN).due("hostage(6, false)", UNKNOWN);
        x.due("hostage(32, true)", UNKNOWN).due("hostage(-32, true)", UNKNOWN);
        x.due("hostage(-2147483648, true)", UNKNOWN).due("hostage(2147483647, true)", UNKNOWN).due("told(10)", 0);
        x.due("hostage(0, true)", 0).due("hostage(5, true)", 0).due("told(10)", 33);
        Run one = Run.of(check, "k1 1;h1;").due("hostage(1, true)", UNKNOWN).due("hostage(0, true)", 0);
        one.due("told(10)", 1);
        Run.of(check, "k1 1;").due("hostage(0, true)", UNKNOWN);
        new Run(check).due("hostage(0, true)", UNKNOWN).due("hostage(0, false)", UNKNOWN);
    }

    private static void hostageTwice() {
        check.part("section 2, a HOSTAGE is GIVEN, or at HOME (all at first)");
        Run x = Run.of(check, SIX).due("told(10)", 0);
        for (int h = 0; h < 6; h++) {
            x.due("hostage(" + h + ", false)", 0).due("hostage(" + h + ", true)", 0).due("hostage(" + h + ", true)", 1);
        }
        x.due("told(10)", 63);
        for (int h = 0; h < 6; h++) {
            x.due("hostage(" + h + ", false)", 1).due("hostage(" + h + ", false)", 0);
        }
        x.due("told(10)", 0);
        check.part("promise 11, what changes nothing can be undone, too");
        x.due("told(14)", 20).due("undo()", 19).due("told(10)", 0).due("undo()", 18).due("told(10)", 32);
    }

    private static void hostageAtAnyTime() {
        check.part("promise 11, not refused when he is free or DEAD");
        free().due("hostage(0, false)", 1).due("told(10)", 0).due("told(11)", 1).due("undo()", 2).due("told(10)", 1);
        dead().due("hostage(0, true)", 0).due("told(10)", 5).due("told(11)", 2);
    }

    // ---- freed and dead

    private static void freeCosts() {
        check.part("promise 12, NOT: THE CHEST has less");
        Run x = Run.of(check, "k100 0;p99 0;p1 0;h1;").does("rate(0, 100)", "month(1)");
        x.due("told(9)", 99).due("free()", NOT).due("told(11)", 0).due("told(9)", 99);
        x.does("rate(1, 100)", "month(1)").due("told(9)", 100).due("free()", 0).due("told(9)", 0).due("told(11)", 1);
        x.due("undo()", 4).due("told(9)", 100).due("raise(1)", 101).due("free()", NOT);
        check.part("section 2, PRICE less 10 for each HOSTAGE that is GIVEN");
        x.due("hostage(0, true)", 0).due("free()", 9).due("undo()", 6).due("raise(9)", 110).due("free()", 0).due("undo()", 7).due("raise(1)", 111).due("free()", NOT);
    }

    private static void freeCostsNoneAtLeast() {
        check.part("section 2, 0 at least");
        Run x = Run.of(check, "k20 0;h1;h1;h1;").due("free()", NOT).does("hostage(0, true)").due("free()", NOT);
        x.does("hostage(1, true)").due("monthsTo()", 0).due("free()", 0).due("told(9)", 0);
        x.does("undo()", "hostage(2, true)").due("monthsTo()", 0).due("free()", 0).due("told(9)", 0).due("told(11)", 1);
        Run y = Run.of(check, "k1 0;p5 0;h1;").does("rate(0, 100)", "month(1)", "hostage(0, true)").due("free()", 5);
        y.due("told(9)", 5);
        Run six = Run.of(check, SIX).does("hostage(0, true)", "hostage(1, true)", "hostage(2, true)", "hostage(3, true)", "hostage(4, true)",
            "hostage(5, true)", "rate(0, 39)", "month(1)").due("free()", NOT);
        six.does("undo()", "rate(0, 40)", "month(1)").due("free()", 0);
    }

    private static void freeNot() {
        check.part("promise 12, NOT: no RANSOM, he is free or DEAD");
        new Run(check).due("free()", NOT).due("told(11)", 0);
        free().due("free()", NOT).due("told(11)", 1);
        Run.of(check, "k5 0;p50 1;h3;").does("hostage(0, true)", "dies()").due("free()", NOT).due("told(11)", 2);
        check.part("promise 12, not FULL above 9000 MONTHS");
        Run.of(check, "k1 0;p9 0;").does("rate(0, 100)").times(375, "month(24)").does("month(1)").due("free()", 8);
    }

    private static void freeAndDeadForGood() {
        check.part("section 2, he is free (for good)");
        Run x = free().due("dies()", NOT).due("drift(24)", NOT).due("free()", NOT).does("rate(0, 9)", "hostage(0, false)").due("told(11)", 1);
        x.due("undo()", 3).due("told(11)", 1).due("undo()", 2).due("told(11)", 1).due("undo()", 1).due("told(11)", 0);
        check.part("section 2, DEAD is for good, too");
        Run y = dead().due("free()", NOT).due("drift(24)", NOT).due("dies()", NOT).does("rate(0, 9)", "hostage(0, true)").due("told(11)", 2);
        y.due("undo()", 4).due("told(11)", 2).due("undo()", 3).due("told(11)", 2).due("undo()", 2).due("told(11)", 0);
    }

    private static void diesNot() {
        check.part("promise 13, NOT: no RANSOM, he is free or DEAD");
        new Run(check).due("dies()", NOT).due("told(11)", 0);
        free().due("dies()", NOT).due("told(11)", 1);
        dead().due("dies()", NOT).due("told(11)", 2);
        check.part("promise 13, MONTHS, from 0 on and above 9000");
        Run.of(check, "k1 0;").due("dies()", 0).due("told(11)", 2);
        at9000().does("month(24)").due("dies()", 9024).due("dies()", NOT);
    }

    // ---- draws

    private static void driftBounds() {
        check.part("promise 14, n MONTHS (1 .. 24)");
        Run x = Run.of(check, "k100 0;p999 0;").does("rate(0, 1)", "seed(5)");
        x.due("drift(0)", OUTSIDE).due("drift(25)", OUTSIDE).due("drift(-1)", OUTSIDE);
        x.due("drift(-2147483648)", OUTSIDE).due("drift(2147483647)", OUTSIDE).due("told(8)", 0).due("seed(5)", 5);
        x.due("drift(1)", 0).due("told(8)", 1).due("told(9)", 9).due("drift(24)", 0).due("told(8)", 25).due("told(9)", chestBehind(25));
    }

    private static void driftNot() {
        check.part("promise 14, NOT: no RANSOM, he is free or DEAD");
        new Run(check).does("seed(3)").due("drift(1)", NOT).due("drift(24)", NOT).due("seed(0)", 3);
        free().does("seed(3)").due("drift(1)", NOT).due("drift(24)", NOT).due("seed(0)", 3);
        dead().does("seed(3)").due("drift(1)", NOT).due("drift(24)", NOT).due("seed(0)", 3);
        check.part("promise 14, OUTSIDE ahead of NOT");
        new Run(check).due("drift(0)", OUTSIDE).due("drift(25)", OUTSIDE);
        free().due("drift(0)", OUTSIDE).due("drift(25)", OUTSIDE);
        dead().due("drift(0)", OUTSIDE).due("drift(25)", OUTSIDE);
    }

    private static void driftFull() {
        check.part("promise 14, FULL: MONTHS are above 9000 as it is called (n may pass that)");
        Run x = at9000();
        x.due("drift(1)", 0).due("told(8)", 9001).due("drift(1)", FULL).due("drift(24)", FULL).due("drift(0)", OUTSIDE).due("drift(25)", OUTSIDE);
        x.due("undo()", 19).due("drift(24)", 0).due("told(8)", 9024).due("drift(1)", FULL).due("month(1)", FULL);
        Run y = Run.of(check, "k1 0;p9 0;").times(374, "month(24)").does("month(23)");
        y.due("drift(24)", 0).due("told(8)", 9023).due("drift(1)", FULL);
    }

    /** The seed from which the next one is this. */
    private static int seedAhead(long next) {
        BigInteger round = BigInteger.valueOf(1L << 31);
        BigInteger back = BigInteger.valueOf(1103515245L).modInverse(round);
        return BigInteger.valueOf(next - 12345L).multiply(back).mod(round).intValueExact();
    }

    private static void drawsBelowD() {
        check.part("section 3, a DRAW of 100: below D he is DEAD, else the MONTH goes by");
        for (int d : new int[] {0, 1, 2, 50, 98, 99}) {
            for (int draw : new int[] {0, 1, d - 1, d, d + 1, 98, 99}) {
                if (draw >= 0 && draw <= 99) {
                    drawn(d, draw, draw * 65536L);
                    drawn(d, draw, draw * 65536L + 65535L);
                    drawn(d, draw, (draw + 32600L) * 65536L);
                }
            }
        }
        check.part("section 3, the greatest DRAW of all, 32767 left over by 100");
        drawn(67, 67, 2147483647L);
        drawn(68, 67, 2147483647L);
    }

    private static void drawn(int d, int draw, long next) {
        Run x = Run.of(check, "k9 " + d + ";").does("seed(" + seedAhead(next) + ")");
        x.due("drift(1)", draw < d ? 2 : 0).due("told(11)", draw < d ? 2 : 0).due("told(8)", draw < d ? 0 : 1);
        x.due("seed(0)", (int) next);
    }

    private static void drawsStopAtDeath() {
        check.part("section 3, while he is neither free nor DEAD");
        // by 68 he lives through the draw of 68 and dies by the next one below it
        Run x = Run.of(check, "k300 68;p100 0;").does("rate(0, 10)", "seed(12345)");
        x.due("drift(24)", 2).due("told(8)", monthsOf(12345, 68)).due("seed(0)", (int) seedBehind(12345, 68));
        x.due("drift(1)", NOT).due("undo()", 1).due("told(8)", 0).due("told(11)", 0).due("seed(7)", 0);
        check.part("section 3, THE SEED is 0 at first");
        Run.of(check, "k300 1;").due("drift(24)", 2).due("told(8)", 0).due("seed(0)", 12345);
        Run.of(check, "k300 0;").due("drift(1)", 0).due("told(8)", 1).due("seed(0)", 12345);
    }

    private static int monthsOf(long seed, int d) {
        int months = 0;
        for (long s = next(seed); s / 65536 % 100 >= d; s = next(s)) {
            months++;
        }
        return months;
    }

    private static long seedBehind(long seed, int d) {
        long s = next(seed);
        while (s / 65536 % 100 >= d) {
            s = next(s);
        }
        return s;
    }

    private static long next(long seed) {
        return BigInteger.valueOf(seed).multiply(BigInteger.valueOf(1103515245L)).add(BigInteger.valueOf(12345L)).mod(BigInteger.valueOf(1L << 31)).longValueExact();
    }

    private static void seedComesRound() {
        check.part("section 3, left over by 2 to the 31");
        for (int seed : new int[] {0, 1, 2147483647, 2147483646, 1073741824, 1073741823}) {
            Run.of(check, "k1 0;").does("seed(" + seed + ")").due("drift(1)", 0).due("seed(0)", (int) next(seed));
        }
        Run.of(check, "k1 0;").does("seed(" + seedAhead(0) + ")").due("drift(1)", 0).due("seed(1)", 0);
        Run.of(check, "k1 0;").does("seed(" + seedAhead(2147483647L) + ")").due("drift(1)", 0).due("seed(1)", 2147483647);
    }

    // ---- undoing

    private static void undoNone() {
        check.part("promise 15, NOT: none");
        new Run(check).due("undo()", NOT);
        Run x = Run.of(check, SIX).due("undo()", NOT).due("rate(0, 1)", 0).due("told(14)", 1).due("undo()", 0).due("told(14)", 0).due("undo()", NOT);
        x.due("payer(0, 2)", 0);
    }

    private static void undoEach() {
        check.part("section 3, UNDONE: rate(), month(), raise(), hostage(), free(), dies(), drift()");
        Run x = Run.of(check, "k5 0;p50 0;h3;").does("seed(8)");
        x.due("rate(0, 10)", 0).due("undo()", 0).due("payer(0, 2)", 0).does("rate(0, 10)");
        x.due("month(2)", 9).due("undo()", 1).due("told(8)", 0).due("told(9)", 0).due("payer(0, 0)", 50);
        x.due("raise(3)", 8).due("undo()", 1).due("told(0)", 5);
        x.due("hostage(0, true)", 0).due("undo()", 1).due("told(10)", 0);
        x.does("month(1)").due("free()", 0).due("undo()", 2).due("told(11)", 0).due("told(9)", 5);
        x.due("dies()", 1).due("undo()", 2).due("told(11)", 0);
        x.due("drift(1)", 0).due("undo()", 2).due("told(8)", 1).due("told(9)", 5).due("payer(0, 0)", 45);
        check.part("section 3, UNDONE: THE SEED stays");
        x.due("seed(0)", (int) next(8));
    }

    private static void undoTwenty() {
        check.part("section 3, 20 at most are kept");
        Run x = Run.of(check, "k1 1;p9 0;");
        for (int r = 1; r <= 19; r++) {
            x.does("rate(0, " + r + ")");
        }
        x.due("told(14)", 19).does("rate(0, 20)").due("told(14)", 20);
        for (int left = 19; left >= 0; left--) {
            x.due("undo()", left).due("payer(0, 2)", left).due("told(14)", left);
        }
        x.due("undo()", NOT).due("payer(0, 2)", 0);
    }

    private static void undoLosesTheOldest() {
        check.part("section 3, the oldest are lost");
        for (int many : new int[] {21, 22, 39, 40, 41, 61}) {
            Run x = Run.of(check, "k1 1;p9 0;");
            for (int r = 1; r <= many; r++) {
                x.does("rate(0, " + r + ")");
            }
            x.due("told(14)", 20);
            for (int left = 19; left >= 0; left--) {
                x.due("undo()", left).due("payer(0, 2)", many - 20 + left);
            }
            x.due("undo()", NOT).due("payer(0, 2)", many - 20);
        }
        check.part("section 3, behind some that were undone there is room again");
        Run y = Run.of(check, "k1 1;p9 0;");
        for (int r = 1; r <= 25; r++) {
            y.does("rate(0, " + r + ")");
        }
        y.times(3, "undo()").due("payer(0, 2)", 22).due("told(14)", 17).does("rate(0, 50)", "rate(0, 51)", "rate(0, 52)", "rate(0, 53)").due("told(14)", 20);
        y.times(4, "undo()").due("payer(0, 2)", 22).times(16, "undo()").due("payer(0, 2)", 6).due("undo()", NOT);
    }

    private static void undoSkipsRefused() {
        check.part("section 3, the latest that was not refused");
        Run x = Run.of(check, SIX).does("rate(0, 30)");
        x.due("rate(6, 1)", UNKNOWN).due("rate(0, 101)", OUTSIDE).due("month(0)", OUTSIDE).due("raise(1000)", OUTSIDE).due("hostage(6, true)", UNKNOWN);
        x.due("free()", NOT).due("drift(25)", OUTSIDE).due("told(14)", 1).due("undo()", 0).due("payer(0, 2)", 0);
        Run y = dead().due("told(14)", 3).due("dies()", NOT).due("month(1)", NOT).due("raise(1)", NOT).due("drift(1)", NOT).due("free()", NOT).due("told(14)", 3);
        y.due("undo()", 2).due("told(11)", 0);
        Run z = Run.of(check, "k1 1;p9 0;");
        for (int r = 1; r <= 20; r++) {
            z.does("rate(0, " + r + ")");
        }
        z.due("rate(0, 101)", OUTSIDE).due("rate(1, 0)", UNKNOWN).due("free()", NOT).due("told(14)", 20).times(20, "undo()").due("payer(0, 2)", 0);
    }

    private static void undoLeavesTheRest() {
        check.part("section 3, UNDONE: what is no part of section 2 stays");
        Run x = Run.of(check, Check.WHOLE).does("rate(0, 10)", "weigh(1, 20)", "write(0, 400)", "seed(6)", "feed(107)");
        x.due("undo()", 0).due("told(12)", 1).due("told(13)", 1).due("told(7)", 1).due("seed(6)", 6).due("undo()", NOT);
    }
}
