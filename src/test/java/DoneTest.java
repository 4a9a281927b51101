/** Promises 8 to 15: rates, months, the price, hostages, his end, draws, undoing. */
public final class DoneTest {
    private static final Check check = new Check("DoneTest");

    public static void main(String[] args) {
        rate();
        month();
        monthFull();
        raise();
        hostage();
        free();
        dies();
        drift();
        driftByDraws();
        driftFull();
        undo();
        undoKeepsTwenty();
        check.end();
    }

    private static void rate() {
        check.part("promise 8");
        KingRansom x = Check.of(Check.WHOLE);
        check.due("rate(0, 100)", x.rate(0, 100), 0);
        check.due("rate(0, 0)", x.rate(0, 0), 100);
        check.due("rate(0, 7)", x.rate(0, 7), 0);
        check.due("rate(0, 7)", x.rate(0, 7), 7);
        check.due("payer(0, 2)", x.payer(0, 2), 7);
        check.due("payer(1, 2)", x.payer(1, 2), 0);
        check.due("told(14)", x.told(14), 4);
        check.due("rate(0, -1)", x.rate(0, -1), Check.OUTSIDE);
        check.due("rate(0, 101)", x.rate(0, 101), Check.OUTSIDE);
        check.due("rate(3, 1)", x.rate(3, 1), Check.UNKNOWN);
        check.due("rate(-1, 1)", x.rate(-1, 1), Check.UNKNOWN);
        check.due("rate(3, 101)", x.rate(3, 101), Check.UNKNOWN);
        check.due("payer(0, 2)", x.payer(0, 2), 7);
        check.due("told(14)", x.told(14), 4);
        x.dies();
        check.due("rate(1, 5) of the dead", x.rate(1, 5), 0);
        check.due("payer(1, 2)", x.payer(1, 2), 5);
    }

    private static void month() {
        check.part("promise 9");
        KingRansom x = Check.of(Check.WHOLE);
        check.due("month(1) at rates of 0", x.month(1), 0);
        x.rate(0, 50);
        x.rate(1, 100);
        check.due("month(1)", x.month(1), 189);
        // 220 goods: 198 told, 99 paid; 81 goods: 8 told, 8 paid
        check.due("month(1)", x.month(1), 296);
        check.due("payer(0, 0)", x.payer(0, 0), 121);
        check.due("payer(1, 0)", x.payer(1, 0), 73);
        check.due("told(8)", x.told(8), 3);
        KingRansom six = Check.of("k1 1;p10 0;p20 0;p30 0;p40 0;p50 0;p60 0;");
        for (int p = 0; p < 6; p++) {
            six.rate(p, 100);
        }
        check.due("month(1) of six", six.month(1), 210);
        KingRansom y = Check.of(Check.WHOLE);
        y.rate(0, 50);
        y.rate(1, 100);
        check.due("month(2)", y.month(2), 296);
        check.due("told(8)", y.told(8), 2);
        check.due("month(24)", y.month(24), y.told(9));
        check.due("told(8)", y.told(8), 26);
        check.due("month(0)", y.month(0), Check.OUTSIDE);
        check.due("month(25)", y.month(25), Check.OUTSIDE);
        check.due("month(-3)", y.month(-3), Check.OUTSIDE);
        y.free();
        check.due("month(1) of the free", y.month(1), Check.NOT);
        check.due("month(25) of the free", y.month(25), Check.OUTSIDE);
        x.dies();
        check.due("month(1) of the dead", x.month(1), Check.NOT);
        check.due("told(8)", x.told(8), 3);
    }

    private static void monthFull() {
        check.part("promise 9, many months");
        KingRansom x = Check.of("k1 1;p9 0;");
        for (int i = 0; i < 375; i++) {
            x.month(24);
        }
        check.due("told(8)", x.told(8), 9000);
        check.due("month(24) at 9000", x.month(24), 0);
        check.due("told(8)", x.told(8), 9024);
        check.due("month(1)", x.month(1), Check.FULL);
        check.due("drift(1)", x.drift(1), Check.FULL);
        check.due("month(0)", x.month(0), Check.OUTSIDE);
        check.due("told(8)", x.told(8), 9024);
        check.due("undo()", x.undo(), 19);
        check.due("month(1) at 9000", x.month(1), 0);
        check.due("month(1) at 9001", x.month(1), Check.FULL);
        x.dies();
        check.due("month(1) of the dead", x.month(1), Check.NOT);
    }

    private static void raise() {
        check.part("promise 10");
        KingRansom x = Check.of("k999 0;");
        check.due("raise(0)", x.raise(0), Check.OUTSIDE);
        check.due("raise(1000)", x.raise(1000), Check.OUTSIDE);
        check.due("raise(-5)", x.raise(-5), Check.OUTSIDE);
        check.due("raise(1)", x.raise(1), 1000);
        for (int i = 1; i <= 9; i++) {
            check.due("raise(999)", x.raise(999), Math.min(9999, 1000 + 999 * i));
        }
        check.due("raise(999)", x.raise(999), 9999);
        check.due("raise(1)", x.raise(1), 9999);
        check.due("told(14)", x.told(14), 12);
        x.dies();
        check.due("raise(1) of the dead", x.raise(1), Check.NOT);
        check.due("raise(0) of the dead", x.raise(0), Check.OUTSIDE);
        KingRansom y = Check.of("k1 0;h1;");
        y.hostage(0, true);
        y.free();
        check.due("raise(1) of the free", y.raise(1), Check.NOT);
    }

    private static void hostage() {
        check.part("promise 11");
        KingRansom x = Check.of(Check.WHOLE);
        check.due("hostage(0, false)", x.hostage(0, false), 0);
        check.due("hostage(3, true)", x.hostage(3, true), 0);
        check.due("hostage(3, true)", x.hostage(3, true), 1);
        check.due("hostage(1, true)", x.hostage(1, true), 0);
        check.due("told(10)", x.told(10), 10);
        check.due("hostage(3, false)", x.hostage(3, false), 1);
        check.due("told(10)", x.told(10), 2);
        check.due("told(14)", x.told(14), 5);
        check.due("hostage(4, true)", x.hostage(4, true), Check.UNKNOWN);
        check.due("hostage(-1, true)", x.hostage(-1, true), Check.UNKNOWN);
        check.due("hostage(32, true)", x.hostage(32, true), Check.UNKNOWN);
        check.due("told(14)", x.told(14), 5);
        x.dies();
        check.due("hostage(1, false) of the dead", x.hostage(1, false), 1);
    }

    private static void free() {
        check.part("promise 12");
        KingRansom x = Check.of("k100 0;p99 0;h1;h2;");
        x.rate(0, 100);
        check.due("free() of an empty chest", x.free(), Check.NOT);
        x.month(1);
        check.due("free() at 99 of 100", x.free(), Check.NOT);
        check.due("told(14)", x.told(14), 2);
        x.hostage(1, true);
        check.due("free() at 99 of 90", x.free(), 9);
        check.due("told(9)", x.told(9), 9);
        check.due("told(11)", x.told(11), 1);
        check.due("free() again", x.free(), Check.NOT);
        check.due("told(9)", x.told(9), 9);
        check.due("undo() of free", x.undo(), 3);
        check.due("told(9)", x.told(9), 99);
        check.due("told(11)", x.told(11), 0);
        KingRansom y = Check.of("k20 0;h1;h1;h1;");
        y.hostage(0, true);
        check.due("free() at 0 of 10", y.free(), Check.NOT);
        y.hostage(1, true);
        check.due("free() at 0 of 0", y.free(), 0);
        y.undo();
        y.hostage(2, true);
        check.due("free() below 0", y.free(), 0);
        KingRansom z = Check.of("k5 0;h1;");
        z.hostage(0, true);
        z.dies();
        check.due("free() of the dead", z.free(), Check.NOT);
        KingRansom e = Check.of("k99 0;p99 0;");
        e.rate(0, 100);
        e.month(1);
        check.due("free() at 99 of 99", e.free(), 0);
    }

    private static void dies() {
        check.part("promise 13");
        KingRansom x = Check.of(Check.WHOLE);
        x.month(7);
        check.due("dies()", x.dies(), 7);
        check.due("told(11)", x.told(11), 2);
        check.due("dies() again", x.dies(), Check.NOT);
        check.due("told(14)", x.told(14), 2);
        KingRansom y = Check.of("k5 0;h1;");
        y.hostage(0, true);
        y.free();
        check.due("dies() of the free", y.dies(), Check.NOT);
        check.due("told(11)", y.told(11), 1);
    }

    private static void drift() {
        check.part("promise 14");
        // the seed 0 becomes 12345: the draw of 100 is 0
        KingRansom x = Check.of("k300 1;p100 0;");
        x.rate(0, 10);
        check.due("drift(5)", x.drift(5), 2);
        check.due("told(8)", x.told(8), 0);
        check.due("told(9)", x.told(9), 0);
        check.due("seed(0)", x.seed(0), 12345);
        KingRansom y = Check.of("k300 0;p100 0;");
        y.rate(0, 10);
        check.due("drift(2)", y.drift(2), 0);
        check.due("told(8)", y.told(8), 2);
        check.due("told(9)", y.told(9), 19);
        // 12345 times 1103515245 and 12345, left over by 2 to the 31
        check.due("seed(0)", y.seed(2147483647), 1406932606);
        check.due("drift(1)", y.drift(1), 0);
        check.due("seed(0)", y.seed(0), (int) ((2147483647L * 1103515245L + 12345L) % 2147483648L));
        // 1406932606 / 65536 left over by 100 is 68: he lives by 68, dies by 69
        lasts("k1 68;", 12345, 0);
        lasts("k1 69;", 12345, 2);
        check.due("drift(0)", y.drift(0), Check.OUTSIDE);
        check.due("drift(25)", y.drift(25), Check.OUTSIDE);
        y.dies();
        check.due("drift(1) of the dead", y.drift(1), Check.NOT);
        check.due("drift(25) of the dead", y.drift(25), Check.OUTSIDE);
        check.due("told(14)", y.told(14), 4);
        check.due("seed(0) stays", y.seed(0), 0);
        KingRansom z = Check.of("k5 0;h1;");
        z.hostage(0, true);
        z.free();
        check.due("drift(1) of the free", z.drift(1), Check.NOT);
    }

    private static void lasts(String text, int seed, int due) {
        KingRansom x = Check.of(text);
        x.seed(seed);
        check.due("drift(1) of " + text, x.drift(1), due);
        check.due("told(8)", x.told(8), due == 0 ? 1 : 0);
    }

    /** From many seeds: how many months he lasts, and the seed behind it. */
    private static void driftByDraws() {
        check.part("promise 14, by draws");
        for (int from = 0; from < 400; from++) {
            KingRansom x = Check.of("k1 7;");
            long seed = from * 5368709L;
            x.seed((int) seed);
            int lasts = 0;
            boolean dead = false;
            while (lasts < 24 && !dead) {
                seed = (seed * 1103515245L + 12345L) & 0x7fffffffL;
                dead = (seed >> 16) % 100 < 7;
                lasts += dead ? 0 : 1;
            }
            check.due("drift(24)", x.drift(24), dead ? 2 : 0);
            check.due("told(8)", x.told(8), lasts);
            x.undo();
            check.due("seed()", x.seed(0), seed);
        }
    }

    private static void driftFull() {
        check.part("promise 14, many months");
        KingRansom x = Check.of("k1 0;");
        for (int i = 0; i < 375; i++) {
            x.drift(24);
        }
        check.due("told(8)", x.told(8), 9000);
        check.due("drift(24) at 9000", x.drift(24), 0);
        check.due("told(8)", x.told(8), 9024);
        check.due("drift(1)", x.drift(1), Check.FULL);
        check.due("month(1)", x.month(1), Check.FULL);
    }

    private static void undo() {
        check.part("promise 15");
        KingRansom x = Check.of(Check.WHOLE);
        check.due("undo()", x.undo(), Check.NOT);
        x.seed(5);
        x.rate(0, 60);
        x.rate(0, 60);
        x.month(3);
        x.raise(9);
        x.hostage(2, true);
        x.hostage(2, true);
        x.drift(1);
        x.dies();
        int seed = x.seed(0);
        x.seed(seed);
        check.due("told(14)", x.told(14), 8);
        check.due("undo() of dies", x.undo(), 7);
        check.due("told(11)", x.told(11), 0);
        check.due("told(8)", x.told(8), 4);
        check.due("undo() of drift", x.undo(), 6);
        check.due("told(8)", x.told(8), 3);
        check.due("the seed stays", x.seed(seed), seed);
        check.due("undo() of hostage", x.undo(), 5);
        check.due("told(10)", x.told(10), 4);
        check.due("undo() of hostage", x.undo(), 4);
        check.due("told(10)", x.told(10), 0);
        check.due("undo() of raise", x.undo(), 3);
        check.due("told(0)", x.told(0), 300);
        check.due("undo() of month", x.undo(), 2);
        check.due("told(8)", x.told(8), 0);
        check.due("told(9)", x.told(9), 0);
        check.due("payer(0, 0)", x.payer(0, 0), 400);
        check.due("payer(0, 2)", x.payer(0, 2), 60);
        check.due("undo() of rate", x.undo(), 1);
        check.due("payer(0, 2)", x.payer(0, 2), 60);
        check.due("undo() of rate", x.undo(), 0);
        check.due("payer(0, 2)", x.payer(0, 2), 0);
        check.due("undo()", x.undo(), Check.NOT);
        x.weigh(1, 20);
        x.write(0, 0);
        x.rate(0, 1);
        x.undo();
        check.due("weighings are not undone", x.told(12), 1);
        check.due("the book is not undone", x.told(13), 1);
    }

    private static void undoKeepsTwenty() {
        check.part("promise 15, twenty");
        KingRansom x = Check.of("k1 1;p9 0;");
        for (int r = 1; r <= 47; r++) {
            x.rate(0, r);
            check.due("told(14)", x.told(14), Math.min(20, r));
        }
        for (int left = 19; left >= 0; left--) {
            check.due("undo()", x.undo(), left);
            check.due("payer(0, 2)", x.payer(0, 2), 27 + left);
        }
        check.due("undo()", x.undo(), Check.NOT);
        check.due("payer(0, 2)", x.payer(0, 2), 27);
    }
}
