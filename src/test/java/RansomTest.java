/** Promises 1 to 7: a new object, the text, its faults, and what is told. */
public final class RansomTest {
    private static final Check check = new Check("RansomTest");

    public static void main(String[] args) {
        newObject();
        feedCounts();
        ransomBegins();
        ransomOfLess();
        ransomWithFault();
        ransomOfNothing();
        faults();
        noFaults();
        told();
        payer();
        bid();
        check.end();
    }

    private static void newObject() {
        check.part("promise 1");
        KingRansom x = new KingRansom();
        for (int what = 0; what <= 14; what++) {
            check.due("told(" + what + ")", x.told(what), 0);
        }
        check.due("fault()", x.fault(), Check.NONE);
        check.due("payer(0, 0)", x.payer(0, 0), Check.UNKNOWN);
        check.due("bid(0)", x.bid(0), Check.NONE);
        check.due("rate(0, 0)", x.rate(0, 0), Check.UNKNOWN);
        check.due("hostage(0, true)", x.hostage(0, true), Check.UNKNOWN);
        check.due("month(1)", x.month(1), Check.NOT);
        check.due("month(0)", x.month(0), Check.OUTSIDE);
        check.due("raise(1)", x.raise(1), Check.NOT);
        check.due("free()", x.free(), Check.NOT);
        check.due("dies()", x.dies(), Check.NOT);
        check.due("drift(1)", x.drift(1), Check.NOT);
        check.due("undo()", x.undo(), Check.NOT);
        check.due("monthsTo()", x.monthsTo(), Check.NOT);
        check.due("spread(1, -1)", x.spread(1, -1), Check.NONE);
        check.due("spread(0, 0)", x.spread(0, 0), Check.UNKNOWN);
        check.due("sell(0, 1)", x.sell(0, 1), Check.NONE);
        check.due("homeOrder(0)", x.homeOrder(0), Check.NONE);
        check.due("spared(5, 1)", x.spared(5, 1), Check.NONE);
        check.due("isShort(-2)", x.isShort(-2), Check.NONE);
        check.due("isShort(0)", x.isShort(0), Check.NONE);
        check.due("weigh(1, 0)", x.weigh(1, 0), Check.UNKNOWN);
        check.due("write(0, 0)", x.write(0, 0), Check.UNKNOWN);
        check.due("goBack(0)", x.goBack(0), Check.NOT);
        check.due("seed(0)", x.seed(0), 0);
        check.due("keep(0)", x.keep(0), 1);
        check.due("goBack(0)", x.goBack(0), 1);
    }

    private static void feedCounts() {
        check.part("promise 2");
        KingRansom x = new KingRansom();
        check.due("feed(-1)", x.feed(-1), Check.OUTSIDE);
        check.due("feed(256)", x.feed(256), Check.OUTSIDE);
        check.due("feed(least)", x.feed(Integer.MIN_VALUE), Check.OUTSIDE);
        check.due("feed(0)", x.feed(0), 1);
        check.due("feed(255)", x.feed(255), 2);
        for (int n = 3; n <= 240; n++) {
            check.due("feed(32)", x.feed(32), n);
        }
        check.due("feed(32) behind 240", x.feed(32), Check.FULL);
        check.due("feed(256) behind 240", x.feed(256), Check.OUTSIDE);
        check.due("told(7)", x.told(7), 240);
        check.due("ransom()", x.ransom(), -11);
        check.due("fault()", x.fault(), 0);
        check.due("feed(32) again", x.feed(32), 1);

        KingRansom y = new KingRansom();
        check.due("240 letters", Check.tell(y, " ".repeat(235) + "k7 3;"), 0);
        check.due("told(0)", y.told(0), 7);
    }

    private static void ransomBegins() {
        check.part("promise 3");
        KingRansom x = Check.of(Check.WHOLE);
        x.seed(77);
        x.rate(0, 50);
        x.month(2);
        x.hostage(1, true);
        x.raise(5);
        x.weigh(1, 20);
        x.write(0, 400);
        x.keep(0);
        x.keep(1);
        x.dies();
        check.due("ransom()", Check.tell(x, "k9 8;p7 6;p5 4;"), 2);
        int[] due = {9, 8, 2, 0, 0, 0, 0, 0, 0, 0, 0, 0, 0, 0, 0};
        for (int what = 0; what < due.length; what++) {
            check.due("told(" + what + ")", x.told(what), due[what]);
        }
        check.due("payer(0, 0)", x.payer(0, 0), 7);
        check.due("payer(0, 2)", x.payer(0, 2), 0);
        check.due("payer(2, 0)", x.payer(2, 0), Check.UNKNOWN);
        check.due("bid(0)", x.bid(0), Check.NONE);
        check.due("undo()", x.undo(), Check.NOT);
        check.due("goBack(0)", x.goBack(0), Check.NOT);
        check.due("goBack(1)", x.goBack(1), Check.NOT);
        check.due("seed(1)", x.seed(1), 77);
        check.due("goods are new again", Check.tell(x, Check.WHOLE), 3);
        check.due("payer(0, 0)", x.payer(0, 0), 400);
    }

    /** What a longer text told ahead of it plays no part any more. */
    private static void ransomOfLess() {
        check.part("promise 3, a shorter text");
        KingRansom x = Check.of(Check.WHOLE);
        Check.tell(x, Check.WHOLE);
        for (int p = 0; p < 3; p++) {
            x.rate(p, 100);
            x.hostage(p, true);
        }
        x.spread(500, -1);
        check.due("ransom()", Check.tell(x, "k50 0;p10 0;h4;"), 1);
        check.due("brings(100)", x.brings(100), 10);
        check.due("spread(11, -1)", x.spread(11, -1), Check.NONE);
        check.due("spread(10, 0)", x.spread(10, 0), 100);
        check.due("spared(100, 11)", x.spared(100, 11), Check.NONE);
        check.due("sell(0, 0)", x.sell(0, 0), 50);
        check.due("isShort(-1)", x.isShort(-1), 0);
        x.hostage(0, true);
        check.due("homeOrder(-1)", x.homeOrder(-1), 4);
        x.rate(0, 100);
        check.due("month(2)", x.month(2), 10);
    }

    private static void ransomWithFault() {
        check.part("promise 3, with a fault");
        KingRansom x = Check.of(Check.WHOLE);
        x.rate(2, 10);
        x.month(1);
        x.hostage(3, true);
        x.weigh(1, 20);
        x.write(0, 399);
        x.keep(1);
        x.raise(1);
        check.due("ransom()", Check.tell(x, "k1 1;p1 1;b3;h3;w3 3;q"), -11);
        check.due("fault()", x.fault(), 21);
        int[] due = {301, 10, 3, 4, 4, 5, 20, 0, 1, 25, 8, 0, 1, 1, 1};
        for (int what = 0; what < due.length; what++) {
            check.due("told(" + what + ")", x.told(what), due[what]);
        }
        check.due("bid(3)", x.bid(3), 280);
        check.due("judge()", x.judge(), 0);
        check.due("undo()", x.undo(), 0);
        check.due("told(0)", x.told(0), 300);
        check.due("goBack(1)", x.goBack(1), 1);
        check.due("a text behind a fault", Check.tell(x, "k2 2;"), 0);
        check.due("fault()", x.fault(), Check.NONE);
        check.due("told(0)", x.told(0), 2);
    }

    private static void ransomOfNothing() {
        check.part("promise 3, an empty text");
        for (String text : new String[] {"", " ", "     ", " ".repeat(240)}) {
            KingRansom x = Check.of(Check.WHOLE);
            Check.tell(x, Check.WHOLE);
            x.hostage(0, true);
            x.keep(0);
            x.weigh(1, 1);
            x.write(1, 1);
            x.rate(0, 1);
            check.due("ransom()", Check.tell(x, text), 0);
            check.due("fault()", x.fault(), Check.NONE);
            for (int what = 0; what <= 14; what++) {
                check.due("told(" + what + ")", x.told(what), 0);
            }
            check.due("dies()", x.dies(), Check.NOT);
            check.due("goBack(0)", x.goBack(0), Check.NOT);
            check.due("payer(0, 0)", x.payer(0, 0), Check.UNKNOWN);
        }
    }

    private static void faults() {
        check.part("promises 3 and 4");
        faultsOfPlace();
        faultsOfNumbers();
        faultsOfCounts();
    }

    private static void faultsOfPlace() {
        fault("x", 1, 0);
        fault("  p1 1;", 1, 2);
        fault(";", 1, 0);
        fault("1", 1, 0);
        fault("K1 1;", 1, 0);
        fault("\tk1 1;", 1, 0);
        fault("w0 0;", 1, 0);
        fault("k", 1, 1);
        fault("k  ", 1, 3);
        fault("k1", 1, 2);
        fault("k1 ", 1, 3);
        fault("k1 1", 1, 4);
        fault("k1 1  ", 1, 6);
        fault("k1;", 1, 2);
        fault("k11;", 1, 3);
        fault("k1,1;", 1, 2);
        fault("k1 1 1;", 1, 5);
        fault("k1 k", 1, 3);
        fault("k1 1;;", 1, 5);
        fault("k1 1;x", 1, 5);
        fault("k1 1; 5", 1, 6);
        fault("k1 1;p", 1, 6);
        fault("k1 1;p5", 1, 7);
        fault("k1 1;p5;", 1, 7);
        fault("k1 1;p5 5", 1, 9);
        fault("k1 1;p5 5p", 1, 9);
        fault("k1 1;b;", 1, 6);
        fault("k1 1;b,", 1, 6);
        fault("k1 1;b1,", 1, 8);
        fault("k1 1;b1,;", 1, 8);
        fault("k1 1;b1 1;", 1, 8);
        fault("k1 1;b1,,1;", 1, 8);
        fault("k1 1;b1,1,1,1,1,1,1,1,1 ,1;", 1, 24);
        fault("k1 1;b1,1,1,1,1,1,1,1,1,1000", 1, 23);
        fault("k1 1;h;", 1, 6);
        fault("k1 1;h1 1;", 1, 8);
        fault("k1 1;h1,", 1, 7);
        fault("k1 1;w1;", 1, 7);
        fault("k1 1;w1 1 1;", 1, 10);
        fault("k1 -1;", 1, 3);
        fault("k1 1;p1 1;" + (char) 0, 1, 10);
        fault("k1 1;p1 1;" + (char) 255, 1, 10);
        fault("k1 1;p1 1;" + (char) ('p' + 128), 1, 10);
        fault("k1 1;w1 w", 1, 8);
    }

    private static void faultsOfNumbers() {
        fault("k0 1;", 2, 1);
        fault("k000 1;", 2, 1);
        fault("k1000 1;", 2, 1);
        fault("k0001 1;", 2, 1);
        fault("k99999999999999999999", 2, 1);
        fault("k4294967297 1;", 2, 1);
        fault("k 0 x", 2, 2);
        fault("k0x", 2, 1);
        fault("k0", 2, 1);
        fault("k1 100;", 2, 3);
        fault("k1 0000;", 2, 3);
        fault("k1 1;p1000 1;", 2, 6);
        fault("k1 1;p1 10;", 2, 8);
        fault("k1 1;p1 0001;", 2, 8);
        fault("k1 1;b1000;", 2, 6);
        fault("k1 1;b1, 1000;", 2, 9);
        fault("k1 1;b1,1,1,1,1,1,1,1,1000,1;", 2, 22);
        fault("k1 1;h0;", 2, 6);
        fault("k1 1;h100;", 2, 6);
        fault("k1 1;w0 1;", 2, 6);
        fault("k1 1;w100 1;", 2, 6);
        fault("k1 1;w1 0;", 2, 8);
        fault("k1 1;w1 9;", 2, 8);
    }

    private static void faultsOfCounts() {
        fault("k1 1;k", 3, 5);
        fault("k1 1; k1 1;", 3, 6);
        fault("k1 1;k0", 3, 5);
        fault("k1 1;b1;p1 1;b1;", 3, 13);
        fault("k1 1;b1;b", 3, 8);
        fault("k1 1;w1 1;w0", 3, 10);
        fault("k1 1;p1 1;p1 1;p1 1;p1 1;p1 1;p1 1;p1 1;", 3, 35);
        fault("k1 1;p1 1;p1 1;p1 1;p1 1;p1 1;p1 1;px", 3, 35);
        fault("k1 1;h1;h1;h1;h1;h1;h1;h1;", 3, 23);
        fault("k1 1;h1;h1;h1;h1;h1;h1;p1 10;h1;", 2, 26);
    }

    /** Told behind a text that has another fault, which must leave nothing behind. */
    private static void fault(String text, int number, int place) {
        KingRansom x = new KingRansom();
        Check.tell(x, "k7 7;p7 7;h7;b7,7;w7 77;");
        check.due("ransom() of '" + text + "'", Check.tell(x, text), -10 - number);
        check.due("fault() of '" + text + "'", x.fault(), place);
        check.due("told(0) behind '" + text + "'", x.told(0), 0);
        check.due("told(7) behind '" + text + "'", x.told(7), 0);
    }

    private static void noFaults() {
        check.part("promise 3, edges of numbers");
        fits("k1 0;", 0, new int[] {1, 0, 0, 0, 0, 0, 0});
        fits("k999 99;", 0, new int[] {999, 99, 0, 0, 0, 0, 0});
        fits(" k 001 099 ; ", 0, new int[] {1, 99, 0, 0, 0, 0, 0});
        fits("k1 0;p0 0;p999 9;", 2, new int[] {1, 0, 2, 0, 0, 0, 0});
        fits("k1 0;w99 8;h99;h1;b999,0;p1 1;", 1, new int[] {1, 0, 1, 2, 2, 8, 99});
        fits("k1 0;w1 1;", 0, new int[] {1, 0, 0, 0, 0, 1, 1});
        fits("k1 0;b 1 , 2 ,3;", 0, new int[] {1, 0, 0, 3, 0, 0, 0});
        fits("k1 0;b1,2,3,4,5,6,7,8,9;", 0, new int[] {1, 0, 0, 9, 0, 0, 0});
        fits("k1 0;h1;h1;h1;h1;h1;h1;p1 1;p1 1;p1 1;p1 1;p1 1;p1 1;", 6, new int[] {1, 0, 6, 0, 6, 0, 0});
    }

    private static void fits(String text, int payers, int[] due) {
        KingRansom x = new KingRansom();
        check.due("ransom() of '" + text + "'", Check.tell(x, text), payers);
        check.due("fault() of '" + text + "'", x.fault(), Check.NONE);
        for (int what = 0; what < due.length; what++) {
            check.due("told(" + what + ") of '" + text + "'", x.told(what), due[what]);
        }
    }

    private static void told() {
        check.part("promise 5");
        KingRansom x = Check.of(Check.WHOLE);
        x.rate(0, 50);
        x.month(1);
        x.hostage(0, true);
        x.hostage(2, true);
        x.raise(11);
        x.weigh(3, 40);
        x.weigh(1, 19);
        x.write(0, 220);
        x.feed('k');
        x.feed('1');
        int[] due = {311, 10, 3, 4, 4, 5, 20, 2, 1, 180, 5, 0, 2, 1, 5};
        for (int what = 0; what < due.length; what++) {
            check.due("told(" + what + ")", x.told(what), due[what]);
        }
        check.due("told(-1)", x.told(-1), Check.OUTSIDE);
        check.due("told(15)", x.told(15), Check.OUTSIDE);
        check.due("told(most)", x.told(Integer.MAX_VALUE), Check.OUTSIDE);
        x.dies();
        check.due("told(11)", x.told(11), 2);
        x.undo();
        x.month(1);
        x.month(1);
        x.free();
        check.due("told(11)", x.told(11), 1);
    }

    private static void payer() {
        check.part("promise 6");
        KingRansom x = Check.of("k1 1;p999 7;p101 9;");
        check.due("payer(0, 3)", x.payer(0, 3), 999);
        check.due("payer(0, 4)", x.payer(0, 4), 0);
        check.due("payer(0, 5)", x.payer(0, 5), 0);
        x.rate(0, 33);
        x.rate(1, 99);
        // 7 times 33 / 10 is 23; 999 times 77 / 100 is 769; times 33 / 100 is 253
        int[] first = {999, 7, 33, 769, 230, 253};
        // 9 times 99 / 10 is 89; 101 times 11 / 100 is 11; times 99 / 100 is 10
        int[] second = {101, 9, 99, 11, 90, 10};
        for (int what = 0; what <= 5; what++) {
            check.due("payer(0, " + what + ")", x.payer(0, what), first[what]);
            check.due("payer(1, " + what + ")", x.payer(1, what), second[what]);
        }
        check.due("payer(-1, 0)", x.payer(-1, 0), Check.UNKNOWN);
        check.due("payer(2, 0)", x.payer(2, 0), Check.UNKNOWN);
        check.due("payer(2, 9)", x.payer(2, 9), Check.UNKNOWN);
        check.due("payer(0, 6)", x.payer(0, 6), Check.OUTSIDE);
        check.due("payer(0, -1)", x.payer(0, -1), Check.OUTSIDE);
        x.dies();
        check.due("payer(0, 5) of the dead", x.payer(0, 5), 253);
    }

    private static void bid() {
        check.part("promise 7");
        KingRansom x = Check.of("k1 1;b7,0,999;");
        check.due("bid(0)", x.bid(0), 7);
        check.due("bid(1)", x.bid(1), 0);
        check.due("bid(2)", x.bid(2), 999);
        check.due("bid(3)", x.bid(3), Check.NONE);
        check.due("bid(-1)", x.bid(-1), Check.NONE);
        check.due("bid(most)", x.bid(Integer.MAX_VALUE), Check.NONE);
        check.due("bid(least)", x.bid(Integer.MIN_VALUE), Check.NONE);
        Check.tell(x, "k1 1;b5;");
        check.due("bid(1) of a shorter one", x.bid(1), Check.NONE);
    }
}
