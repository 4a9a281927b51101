/** Promises 26 to 33: weighings, the book, the seed, images. */
public final class KeptTest {
    private static final Check check = new Check("KeptTest");

    public static void main(String[] args) {
        weigh();
        isShort();
        shortEdges();
        weighNext();
        write();
        tear();
        judge();
        seed();
        keep();
        goBack();
        check.end();
    }

    private static void weigh() {
        check.part("promise 26");
        KingRansom x = Check.of(Check.WHOLE);
        check.due("weigh(32, 0)", x.weigh(32, 0), Check.UNKNOWN);
        check.due("weigh(33, 0)", x.weigh(33, 0), Check.UNKNOWN);
        check.due("weigh(-1, 0)", x.weigh(-1, 0), Check.UNKNOWN);
        check.due("weigh(least, 0)", x.weigh(Integer.MIN_VALUE, 0), Check.UNKNOWN);
        check.due("weigh(32, -1)", x.weigh(32, -1), Check.UNKNOWN);
        check.due("weigh(1, -1)", x.weigh(1, -1), Check.OUTSIDE);
        check.due("weigh(1, 1000)", x.weigh(1, 1000), Check.OUTSIDE);
        check.due("told(12)", x.told(12), 0);
        check.due("weigh(31, 999)", x.weigh(31, 999), 1);
        check.due("weigh(0, 0)", x.weigh(0, 0), 2);
        for (int n = 3; n <= 6; n++) {
            check.due("weigh(1, 0)", x.weigh(1, 0), n);
        }
        check.due("weigh(1, 0) behind 6", x.weigh(1, 0), Check.FULL);
        check.due("weigh(1, 1000) behind 6", x.weigh(1, 1000), Check.OUTSIDE);
        check.due("weigh(32, 0) behind 6", x.weigh(32, 0), Check.UNKNOWN);
        check.due("told(12)", x.told(12), 6);
        KingRansom eight = Check.of("k1 1;w1 8;");
        check.due("weigh(255, 8)", eight.weigh(255, 8), 1);
        check.due("weigh(256, 8)", eight.weigh(256, 8), Check.UNKNOWN);
        KingRansom none = new KingRansom();
        check.due("weigh(0, 0) without bags", none.weigh(0, 0), 1);
        check.due("isShort(-1) without bags", none.isShort(-1), 0);
    }

    private static void isShort() {
        check.part("promise 27");
        KingRansom x = Check.of(Check.WHOLE);
        check.due("isShort(-1)", x.isShort(-1), 45);
        for (int i = 0; i < 45; i++) {
            check.due("isShort(" + i + ")", x.isShort(i), i / 9 * 10 + i % 9 + 1);
        }
        check.due("isShort(45)", x.isShort(45), Check.NONE);
        check.due("isShort(-3)", x.isShort(-3), Check.NONE);
        check.due("isShort(least)", x.isShort(Integer.MIN_VALUE), Check.NONE);
        check.due("isShort(most)", x.isShort(Integer.MAX_VALUE), Check.NONE);
        x.weigh(7, 56);
        check.due("isShort(-1)", x.isShort(-1), 3);
        for (int i = 0; i < 3; i++) {
            check.due("isShort(" + i + ")", x.isShort(i), 10 * i + 4);
        }
        x.weigh(10, 40);
        check.due("isShort(-1)", x.isShort(-1), 2);
        check.due("isShort(0)", x.isShort(0), 4);
        check.due("isShort(1)", x.isShort(1), 24);
        x.weigh(0, 0);
        check.due("the empty set weighs nothing", x.isShort(-1), 2);
        x.weigh(0, 1);
        check.due("the empty set weighs nothing", x.isShort(-1), 0);
        check.due("isShort(0)", x.isShort(0), Check.NONE);
        check.due("isShort(-2)", x.isShort(-2), Check.NONE);
    }

    private static void shortEdges() {
        check.part("promise 27, edges");
        KingRansom x = Check.of("k1 1;w3 2;");
        check.due("short by W at most", x.isShort(-1), 6);
        int[] due = {1, 2, 3, 11, 12, 13};
        for (int i = 0; i < 6; i++) {
            check.due("isShort(" + i + ")", x.isShort(i), due[i]);
        }
        x.weigh(1, 0);
        check.due("a bag of nothing", x.isShort(0), 3);
        check.due("isShort(-1)", x.isShort(-1), 1);
        KingRansom y = Check.of("k1 1;w99 8;");
        check.due("isShort(-1)", y.isShort(-1), 72);
        y.weigh(1, 89);
        check.due("short by 10", y.isShort(-1), 0);
        y.tear();
        y.weigh(1, 90);
        check.due("short by 9", y.isShort(0), 9);
        y.tear();
        y.weigh(1, 100);
        check.due("more than told", y.isShort(-1), 0);
        KingRansom none = Check.of("k1 1;");
        check.due("isShort(-1) without bags", none.isShort(-1), 0);
        check.due("isShort(-2) without bags", none.isShort(-2), Check.NONE);
    }

    private static void weighNext() {
        check.part("promise 27, weigh next");
        KingRansom x = Check.of(Check.WHOLE);
        check.due("isShort(-2) of all", x.isShort(-2), 31);
        x.weigh(31, 97);
        check.due("five by 3: two and three", x.isShort(-2), 3);
        x.weigh(3, 37);
        check.due("two by 3", x.isShort(-2), 1);
        x.weigh(4, 20);
        check.due("two by 3", x.isShort(-2), 1);
        x.weigh(2, 20);
        check.due("one is left", x.isShort(-1), 1);
        check.due("none parts one", x.isShort(-2), Check.NONE);
        KingRansom nine = Check.of(Check.WHOLE);
        nine.weigh(31, 91);
        check.due("five by 9: two and three", nine.isShort(-2), 3);
        nine.weigh(3, 31);
        check.due("two by 9", nine.isShort(-2), 1);
        KingRansom one = Check.of("k1 1;w5 1;");
        check.due("isShort(-2) of one bag", one.isShort(-2), 1);
        one.weigh(1, 5);
        check.due("nothing fits", one.isShort(-2), Check.NONE);
        KingRansom eight = Check.of("k1 1;w9 8;");
        check.due("isShort(-2) of eight", eight.isShort(-2), 255);
        KingRansom small = Check.of("k1 1;w1 4;");
        check.due("isShort(-2) of four by 1", small.isShort(-2), 3);
        KingRansom two = Check.of("k1 1;w2 4;");
        // three bags: 2 alike outside, 3 and 3; all: 4 and 4; two: 4 outside
        check.due("isShort(-2) of four by 1 or 2", two.isShort(-2), 7);
    }

    private static void write() {
        check.part("promise 28");
        KingRansom x = Check.of(Check.WHOLE);
        check.due("write(3, 0)", x.write(3, 0), Check.UNKNOWN);
        check.due("write(-1, 0)", x.write(-1, 0), Check.UNKNOWN);
        check.due("write(3, -1)", x.write(3, -1), Check.UNKNOWN);
        check.due("write(0, -1)", x.write(0, -1), Check.OUTSIDE);
        check.due("write(0, 1000)", x.write(0, 1000), Check.OUTSIDE);
        check.due("told(13)", x.told(13), 0);
        for (int n = 1; n <= 15; n++) {
            check.due("write(2, 999)", x.write(2, n == 1 ? 0 : 999), n);
        }
        check.due("write(2, 0) behind 15", x.write(2, 0), Check.FULL);
        check.due("write(2, -1) behind 15", x.write(2, -1), Check.OUTSIDE);
        check.due("write(9, 0) behind 15", x.write(9, 0), Check.UNKNOWN);
        check.due("told(13)", x.told(13), 15);
    }

    private static void tear() {
        check.part("promise 29");
        KingRansom x = Check.of(Check.WHOLE);
        check.due("tear()", x.tear(), 0);
        x.weigh(1, 1);
        x.weigh(1, 1);
        x.write(0, 0);
        x.write(0, 0);
        x.write(0, 0);
        check.due("tear()", x.tear(), 5);
        check.due("told(12)", x.told(12), 0);
        check.due("told(13)", x.told(13), 0);
        check.due("judge()", x.judge(), Check.NONE);
        check.due("isShort(-1)", x.isShort(-1), 45);
        check.due("weigh(1, 20)", x.weigh(1, 20), 1);
        check.due("write(0, 400)", x.write(0, 400), 1);
        check.due("tear()", x.tear(), 2);
        check.due("tear()", x.tear(), 0);
    }

    private static void judge() {
        check.part("promise 30");
        KingRansom x = Check.of(Check.WHOLE);
        check.due("judge() of no book", x.judge(), Check.NONE);
        x.write(2, 250);
        x.write(0, 400);
        x.write(1, 90);
        check.due("judge() of a true book", x.judge(), Check.NONE);
        x.write(1, 91);
        x.write(1, 89);
        check.due("judge()", x.judge(), 3);
        x.rate(0, 10);
        x.month(1);
        check.due("judge() behind a month", x.judge(), 1);
        x.undo();
        check.due("judge() undone", x.judge(), 3);
    }

    private static void seed() {
        check.part("promise 31");
        KingRansom x = new KingRansom();
        check.due("seed(5)", x.seed(5), 0);
        check.due("seed(-1)", x.seed(-1), Check.OUTSIDE);
        check.due("seed(least)", x.seed(Integer.MIN_VALUE), Check.OUTSIDE);
        check.due("seed(2147483647)", x.seed(2147483647), 5);
        check.due("seed(0)", x.seed(0), 2147483647);
        check.due("seed(0)", x.seed(0), 0);
    }

    private static void keep() {
        check.part("promise 32");
        KingRansom x = Check.of(Check.WHOLE);
        x.rate(0, 5);
        check.due("keep(2)", x.keep(2), Check.UNKNOWN);
        check.due("keep(-1)", x.keep(-1), Check.UNKNOWN);
        check.due("told(14)", x.told(14), 1);
        check.due("keep(1)", x.keep(1), 1);
        check.due("told(14)", x.told(14), 0);
        check.due("undo()", x.undo(), Check.NOT);
        x.rate(0, 6);
        check.due("keep(1) again", x.keep(1), 1);
        x.rate(0, 7);
        x.goBack(1);
        check.due("the later one is kept", x.payer(0, 2), 6);
        check.due("goBack(0)", x.goBack(0), Check.NOT);
    }

    private static void goBack() {
        check.part("promise 33");
        KingRansom x = Check.of(Check.WHOLE);
        check.due("goBack(2)", x.goBack(2), Check.UNKNOWN);
        check.due("goBack(-1)", x.goBack(-1), Check.UNKNOWN);
        check.due("goBack(0)", x.goBack(0), Check.NOT);
        x.rate(0, 50);
        x.month(1);
        x.raise(7);
        x.hostage(1, true);
        x.seed(99);
        x.keep(0);
        x.weigh(1, 20);
        x.write(0, 220);
        x.rate(0, 60);
        x.month(2);
        x.raise(1);
        x.hostage(1, false);
        x.hostage(2, true);
        x.seed(1);
        x.dies();
        x.keep(1);
        x.rate(1, 1);
        check.due("goBack(0)", x.goBack(0), 1);
        int[] due = {307, 10, 3, 4, 4, 5, 20, 0, 1, 180, 2, 0, 1, 1, 0};
        for (int what = 0; what < due.length; what++) {
            check.due("told(" + what + ")", x.told(what), due[what]);
        }
        check.due("payer(0, 0)", x.payer(0, 0), 220);
        check.due("payer(0, 2)", x.payer(0, 2), 50);
        check.due("payer(1, 2)", x.payer(1, 2), 0);
        check.due("judge()", x.judge(), Check.NONE);
        check.due("seed(4)", x.seed(4), 99);
        check.due("undo()", x.undo(), Check.NOT);
        x.month(1);
        check.due("goBack(0) twice", x.goBack(0), 1);
        check.due("told(9)", x.told(9), 180);
        check.due("goBack(1)", x.goBack(1), 1);
        check.due("told(11)", x.told(11), 2);
        check.due("told(0)", x.told(0), 308);
        check.due("told(10)", x.told(10), 4);
        check.due("seed(4)", x.seed(4), 1);
    }
}
