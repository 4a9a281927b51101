/** The boundary cases of section 3 and of promises 26 to 33, a sentence at a time. */
public final class KeptBoundsTest {
    private static final Check check = new Check("KeptBoundsTest");
    private static final int NONE = Check.NONE, UNKNOWN = Check.UNKNOWN, OUTSIDE = Check.OUTSIDE, NOT = Check.NOT, FULL = Check.FULL;

    private static final int LEAST = Integer.MIN_VALUE, MOST = Integer.MAX_VALUE;

    public static void main(String[] args) {
        weighWhat();
        weighBounds();
        weighFull();
        weighRefusalsInOrder();
        shortBounds();
        shortByAtMost();
        shortAsWeighed();
        weighNextNone();
        weighNextLeast();
        writeBounds();
        writeFull();
        writeRefusalsInOrder();
        tearBoth();
        judgeFirst();
        judgeLast();
        seedBounds();
        keepBounds();
        keepDropsSteps();
        goBackBounds();
        goBackNot();
        goBackDropsSteps();
        imagesKeepSectionTwo();
        imagesOfFreeAndDead();
        imagesWithoutRansom();
        check.end();
    }

    private static Run bags(int marks, int many) {
        return Run.of(check, "k1 0;w" + marks + " " + many + ";");
    }

    private static Run kept() {
        return Run.of(check, Check.WHOLE).does("seed(9)", "rate(0, 20)", "rate(2, 40)", "month(1)", "keep(0)", "hostage(2, true)", "raise(4)");
    }

    // ---- weighings

    private static void weighWhat() {
        check.part("promise 26, UNKNOWN: bits of BAGS that there are not");
        for (int many = 1; many <= 8; many++) {
            int all = (1 << many) - 1;
            Run x = bags(9, many).due("weigh(" + all + ", 0)", 1).due("weigh(" + (all + 1) + ", 0)", UNKNOWN).due("weigh(" + (2 * all + 1) + ", 0)", UNKNOWN);
            x.due("weigh(-1, 0)", UNKNOWN).due("weigh(" + LEAST + ", 0)", UNKNOWN).due("weigh(" + (LEAST + 1) + ", 0)", UNKNOWN);
            x.due("weigh(" + MOST + ", 0)", UNKNOWN).due("weigh(256, 0)", UNKNOWN).due("told(12)", 1);
        }
        check.part("promise 26, without BAGS");
        for (Run x : new Run[] {new Run(check), Run.of(check, "k1 0;")}) {
            x.due("weigh(1, 0)", UNKNOWN).due("weigh(-1, 0)", UNKNOWN).due("weigh(128, 0)", UNKNOWN).due("weigh(0, 0)", 1).due("told(12)", 1).due("isShort(-1)", 0);
        }
    }

    private static void weighBounds() {
        check.part("section 3, a SET of BAGS weighs w (0 .. 999)");
        Run x = bags(9, 2).due("weigh(1, -1)", OUTSIDE).due("weigh(1, 1000)", OUTSIDE).due("weigh(1, " + LEAST + ")", OUTSIDE).due("weigh(1, " + MOST + ")", OUTSIDE);
        x.due("told(12)", 0).due("weigh(1, 0)", 1).due("weigh(1, 999)", 2).due("told(12)", 2);
    }

    private static void weighFull() {
        check.part("promise 26, FULL (6)");
        Run x = bags(9, 2);
        for (int n = 1; n <= 6; n++) {
            x.due("weigh(1, 8)", n);
        }
        x.due("isShort(-1)", 1).due("weigh(1, 8)", FULL).due("weigh(2, 8)", FULL).due("weigh(0, 0)", FULL).due("told(12)", 6).due("isShort(-1)", 1);
        check.part("promise 26, behind tear() there is room again");
        x.due("tear()", 6).due("weigh(2, 8)", 1).due("isShort(0)", 11);
    }

    private static void weighRefusalsInOrder() {
        check.part("promise 26, UNKNOWN, OUTSIDE, FULL in this order");
        Run x = bags(9, 2).due("weigh(4, 1000)", UNKNOWN).due("weigh(-1, -1)", UNKNOWN).times(6, "weigh(3, 17)");
        x.due("weigh(4, 1000)", UNKNOWN).due("weigh(4, 0)", UNKNOWN).due("weigh(3, 1000)", OUTSIDE).due("weigh(3, -1)", OUTSIDE).due("weigh(3, 17)", FULL);
    }

    private static void shortBounds() {
        check.part("promise 27, the i-th; NONE (i below these, too)");
        Run x = bags(99, 8).due("isShort(-1)", 72).due("isShort(0)", 1).due("isShort(1)", 2).due("isShort(8)", 9).due("isShort(9)", 11);
        x.due("isShort(70)", 78).due("isShort(71)", 79).due("isShort(72)", NONE).due("isShort(73)", NONE);
        x.due("isShort(-3)", NONE).due("isShort(-4)", NONE).due("isShort(" + LEAST + ")", NONE).due("isShort(" + MOST + ")", NONE);
        check.part("promise 27, without BAGS");
        for (Run y : new Run[] {new Run(check), Run.of(check, "k1 0;")}) {
            y.due("isShort(-3)", NONE).due("isShort(-2)", NONE).due("isShort(-1)", 0).due("isShort(0)", NONE);
        }
    }

    private static void shortByAtMost() {
        check.part("section 3, short by 1 to 9 marks (W at most)");
        for (int marks : new int[] {1, 2, 8, 9, 10, 11, 99}) {
            int by = Math.min(9, marks);
            Run x = bags(marks, 2).due("isShort(-1)", 2 * by).due("isShort(0)", 1).due("isShort(" + (by - 1) + ")", by).due("isShort(" + by + ")", 11);
            x.due("isShort(" + (2 * by - 1) + ")", 10 + by).due("isShort(" + 2 * by + ")", NONE);
        }
        check.part("section 3, short by W, and by 9, as weighed");
        bags(9, 1).does("weigh(1, 0)").due("isShort(-1)", 1).due("isShort(0)", 9).due("isShort(1)", NONE);
        bags(1, 1).does("weigh(1, 0)").due("isShort(-1)", 1).due("isShort(0)", 1);
        bags(10, 1).does("weigh(1, 0)").due("isShort(-1)", 0).due("isShort(0)", NONE);
        bags(10, 1).does("weigh(1, 1)").due("isShort(-1)", 1).due("isShort(0)", 9);
        bags(10, 1).does("weigh(1, 9)").due("isShort(-1)", 1).due("isShort(0)", 1);
        bags(10, 1).does("weigh(1, 10)").due("isShort(-1)", 0);
        bags(10, 1).does("weigh(1, 11)").due("isShort(-1)", 0);
    }

    private static void shortAsWeighed() {
        check.part("section 3, all that is WEIGHED is so");
        Run x = bags(20, 3).does("weigh(3, 37)").due("isShort(-1)", 2).dues("isShort(", 0, ")", 3, 13, NONE);
        x.does("weigh(2, 20)").due("isShort(-1)", 1).dues("isShort(", 0, ")", 3, NONE).does("weigh(4, 19)").due("isShort(-1)", 0).due("isShort(0)", NONE);
        check.part("section 3, all others as told");
        bags(20, 3).does("weigh(7, 60)").due("isShort(-1)", 0);
        bags(20, 3).does("weigh(6, 40)").due("isShort(-1)", 9).due("isShort(8)", 9).due("isShort(9)", NONE);
        bags(99, 8).does("weigh(255, 783)").due("isShort(-1)", 8).due("isShort(7)", 79);
        bags(99, 8).does("weigh(255, 782)").due("isShort(-1)", 0);
        bags(99, 8).does("weigh(255, 791)").due("isShort(-1)", 8).due("isShort(7)", 71);
        bags(99, 8).does("weigh(255, 792)").due("isShort(-1)", 0);
        check.part("section 3, the empty SET weighs 0");
        bags(20, 3).does("weigh(0, 0)").due("isShort(-1)", 27).does("weigh(0, 1)").due("isShort(-1)", 0);
        check.part("section 3, the sixth that is WEIGHED counts, too");
        bags(20, 3).times(5, "weigh(0, 0)").due("isShort(-1)", 27).does("weigh(1, 15)").due("isShort(-1)", 1).due("isShort(0)", 5);
    }

    private static void weighNextNone() {
        check.part("promise 27, WEIGH NEXT, NONE: none parts them");
        bags(1, 1).due("isShort(-1)", 1).due("isShort(-2)", NONE);
        bags(2, 1).due("isShort(-1)", 2).due("isShort(-2)", 1);
        bags(1, 2).due("isShort(-1)", 2).due("isShort(-2)", 1);
        bags(20, 3).does("weigh(1, 15)").due("isShort(-1)", 1).due("isShort(-2)", NONE);
        bags(20, 3).does("weigh(7, 60)").due("isShort(-1)", 0).due("isShort(-2)", NONE);
        bags(20, 3).does("weigh(3, 30)").due("isShort(-1)", 0).due("isShort(-2)", NONE);
        bags(20, 3).does("weigh(3, 35)").due("isShort(-1)", 2).due("isShort(-2)", 1);
        bags(20, 3).does("weigh(6, 35)").due("isShort(-1)", 2).due("isShort(-2)", 2);
    }

    private static void weighNextLeast() {
        check.part("section 3, the least SET of BAGS by which the greatest part is least");
        // eight by 9 each: all together part by how much, eight alike; any less leaves 9 or more alike outside
        bags(99, 8).due("isShort(-2)", 255);
        // eight by 5: four against four
        bags(99, 8).does("weigh(255, 787)").due("isShort(-1)", 8).due("isShort(-2)", 15);
        bags(99, 8).does("weigh(255, 791)").due("isShort(-1)", 8).due("isShort(-2)", 15);
        bags(99, 8).does("weigh(255, 783)").due("isShort(-1)", 8).due("isShort(-2)", 15);
        bags(1, 8).due("isShort(-1)", 8).due("isShort(-2)", 15);
        bags(1, 7).due("isShort(-2)", 7);
        bags(1, 3).due("isShort(-2)", 1);
        bags(2, 2).due("isShort(-2)", 1);
        bags(3, 2).due("isShort(-2)", 3);
    }

    // ---- the book

    private static void writeBounds() {
        check.part("promise 28, UNKNOWN");
        Run x = Run.of(check, Check.WHOLE).due("write(-1, 5)", UNKNOWN).due("write(3, 5)", UNKNOWN).due("write(" + LEAST + ", 5)", UNKNOWN).due("write(" + MOST + ", 5)", UNKNOWN);
        x.due("told(13)", 0).due("write(0, 5)", 1).due("write(2, 5)", 2);
        new Run(check).due("write(0, 5)", UNKNOWN).due("told(13)", 0);
        Run.of(check, "k1 0;").due("write(0, 5)", UNKNOWN);
        check.part("promise 28, 0 .. 999, OUTSIDE");
        x.due("write(0, -1)", OUTSIDE).due("write(0, 1000)", OUTSIDE).due("write(0, " + LEAST + ")", OUTSIDE).due("write(0, " + MOST + ")", OUTSIDE);
        x.due("told(13)", 2).due("write(0, 0)", 3).due("write(0, 999)", 4);
        Run.of(check, "k1 0;p0 0;p999 0;").does("write(0, 0)", "write(1, 999)").due("judge()", NONE);
    }

    private static void writeFull() {
        check.part("promise 28, FULL (15)");
        Run x = Run.of(check, Check.WHOLE);
        for (int n = 1; n <= 15; n++) {
            x.due("write(1, 90)", n);
        }
        x.due("write(1, 90)", FULL).due("write(1, 91)", FULL).due("write(0, 0)", FULL).due("told(13)", 15).due("judge()", NONE);
        check.part("promise 28, behind tear() there is room again");
        x.due("tear()", 15).due("write(1, 91)", 1).due("judge()", 0);
    }

    private static void writeRefusalsInOrder() {
        check.part("promise 28, UNKNOWN, OUTSIDE, FULL in this order");
        Run x = Run.of(check, Check.WHOLE).due("write(3, -1)", UNKNOWN).due("write(-1, 1000)", UNKNOWN).times(15, "write(1, 90)");
        x.due("write(3, -1)", UNKNOWN).due("write(3, 5)", UNKNOWN).due("write(1, -1)", OUTSIDE).due("write(1, 1000)", OUTSIDE).due("write(1, 90)", FULL);
    }

    private static void tearBoth() {
        check.part("promise 29, how much both had");
        new Run(check).due("tear()", 0);
        Run x = Run.of(check, Check.WHOLE).due("tear()", 0).does("weigh(1, 20)").due("tear()", 1).due("tear()", 0).does("write(0, 1)").due("tear()", 1);
        x.times(6, "weigh(1, 15)").times(15, "write(0, 1)").due("isShort(-1)", 1).due("judge()", 0).due("tear()", 21);
        x.due("told(12)", 0).due("told(13)", 0).due("isShort(-1)", 45).due("judge()", NONE).due("tear()", 0);
        check.part("promise 29, no part of what can be undone");
        Run y = kept().does("weigh(1, 20)", "write(0, 1)").due("told(14)", 2).due("tear()", 2).due("told(14)", 2).due("undo()", 1).due("told(12)", 0);
        y.due("told(13)", 0);
    }

    private static void judgeFirst() {
        check.part("promise 30, WRONG: the first that is otherwise now; NONE");
        new Run(check).due("judge()", NONE);
        Run x = Run.of(check, Check.WHOLE).due("judge()", NONE).does("write(0, 400)").due("judge()", NONE).does("write(1, 89)").due("judge()", 1);
        x.does("write(1, 91)").due("judge()", 1).does("rate(0, 1)", "month(1)").due("payer(0, 0)", 396).due("judge()", 0).does("undo()").due("judge()", 1);
    }

    private static void judgeLast() {
        check.part("promise 30, the fifteenth entry, too");
        Run x = Run.of(check, Check.WHOLE).times(14, "write(2, 250)").due("judge()", NONE).does("write(2, 249)").due("judge()", 14);
        x.does("tear()").times(14, "write(2, 250)").does("write(2, 251)").due("judge()", 14);
    }

    // ---- the seed

    private static void seedBounds() {
        check.part("promise 31, v (0 .. 2147483647), OUTSIDE");
        Run x = new Run(check).due("seed(-1)", OUTSIDE).due("seed(" + LEAST + ")", OUTSIDE).due("seed(0)", 0).due("seed(2147483647)", 0);
        x.due("seed(-1)", OUTSIDE).due("seed(2147483646)", 2147483647).due("seed(1)", 2147483646).due("seed(0)", 1).due("seed(0)", 0);
        check.part("promise 31, no part of what can be undone, nor lost by ransom()");
        Run y = kept().due("seed(5)", 9).due("told(14)", 2).due("undo()", 1).due("seed(6)", 5).told("k1 1;").due("seed(7)", 6).told("").due("seed(8)", 7);
        y.feeds("k").due("ransom()", -11).due("seed(9)", 8);
    }

    // ---- images

    private static void keepBounds() {
        check.part("promise 32, IMAGES 0, 1, UNKNOWN");
        for (Run x : new Run[] {kept(), new Run(check), kept().does("dies()")}) {
            x.due("keep(-1)", UNKNOWN).due("keep(2)", UNKNOWN).due("keep(" + LEAST + ")", UNKNOWN).due("keep(" + MOST + ")", UNKNOWN);
            x.due("goBack(1)", NOT).due("keep(0)", 1).due("goBack(1)", NOT).due("keep(1)", 1).due("goBack(0)", 1).due("goBack(1)", 1);
        }
    }

    private static void keepDropsSteps() {
        check.part("promise 32, nothing can be undone then");
        Run x = kept().due("told(14)", 2).due("keep(2)", UNKNOWN).due("told(14)", 2).due("keep(1)", 1).due("told(14)", 0).due("undo()", NOT);
        x.does("rate(1, 1)").due("told(14)", 1).due("undo()", 0).due("undo()", NOT);
        Run.of(check, "k1 0;p1 0;").times(20, "rate(0, 1)").due("keep(0)", 1).due("undo()", NOT).times(21, "rate(0, 2)").due("told(14)", 20).times(20, "undo()").due("payer(0, 2)", 2);
    }

    private static void goBackBounds() {
        check.part("promise 33, UNKNOWN");
        for (Run x : new Run[] {kept(), new Run(check), kept().does("dies()")}) {
            x.due("goBack(-1)", UNKNOWN).due("goBack(2)", UNKNOWN).due("goBack(" + LEAST + ")", UNKNOWN).due("goBack(" + MOST + ")", UNKNOWN);
        }
    }

    private static void goBackNot() {
        check.part("promise 33, NOT: it was not kept");
        new Run(check).due("goBack(0)", NOT).due("goBack(1)", NOT);
        Run.of(check, Check.WHOLE).due("goBack(0)", NOT).due("goBack(1)", NOT);
        kept().due("goBack(1)", NOT).due("told(14)", 2).due("goBack(0)", 1).due("goBack(1)", NOT);
        check.part("promise 33, NOT behind a new RANSOM, an empty one, too");
        kept().does("keep(1)").told("k1 1;").due("goBack(0)", NOT).due("goBack(1)", NOT);
        kept().does("keep(1)").told("  ").due("goBack(0)", NOT).due("goBack(1)", NOT);
        Run x = kept().does("keep(1)").feeds("x").due("ransom()", -11).due("goBack(0)", 1).due("goBack(1)", 1);
        x.due("told(0)", 304);
    }

    private static void goBackDropsSteps() {
        check.part("promise 33, nothing can be undone then");
        Run x = kept().due("goBack(1)", NOT).due("goBack(2)", UNKNOWN).due("told(14)", 2).due("goBack(0)", 1).due("told(14)", 0).due("undo()", NOT);
        x.does("rate(1, 1)").due("undo()", 0).due("payer(1, 2)", 0);
    }

    private static void imagesKeepSectionTwo() {
        check.part("section 3, IMAGES keep all of section 2, THE SEED");
        Run x = kept().does("keep(1)", "weigh(1, 20)", "write(1, 90)");
        x.does("rate(0, 99)", "rate(1, 98)", "month(3)", "raise(50)", "hostage(2, false)", "hostage(1, true)", "seed(123)");
        x.due("goBack(1)", 1).due("told(0)", 304).due("told(8)", 1).due("told(9)", 176).due("told(10)", 4).due("told(11)", 0);
        x.due("payer(0, 0)", 324).due("payer(0, 2)", 20).due("payer(1, 2)", 0).due("payer(2, 0)", 150).due("seed(1)", 9);
        check.part("section 3, what is no part of them stays");
        x.due("told(12)", 1).due("told(13)", 1);
        check.part("section 3, an IMAGE can be gone back to again, and stays as it was kept");
        x.does("rate(0, 1)", "month(1)", "raise(1)").due("goBack(0)", 1).due("told(0)", 300).due("told(10)", 0).does("month(1)");
        x.due("goBack(1)", 1).due("told(0)", 304).due("told(8)", 1).due("payer(0, 2)", 20).due("seed(1)", 9);
        check.part("promise 32, an IMAGE that is kept again is the later one");
        x.does("raise(6)").due("keep(1)", 1).does("raise(1)").due("goBack(1)", 1).due("told(0)", 310).due("goBack(0)", 1).due("told(0)", 300);
    }

    private static void imagesOfFreeAndDead() {
        check.part("section 3, IMAGES of the free and the DEAD");
        Run x = Run.of(check, "k5 0;h1;").does("hostage(0, true)", "keep(0)", "free()", "keep(1)").due("month(1)", NOT);
        x.due("goBack(0)", 1).due("told(11)", 0).due("month(1)", 0).due("dies()", 1).due("goBack(1)", 1).due("told(11)", 1).due("month(1)", NOT).due("dies()", NOT);
        Run y = Run.of(check, "k5 0;").does("keep(0)", "dies()", "keep(1)").due("goBack(0)", 1).due("told(11)", 0).due("dies()", 0).does("undo()");
        y.due("goBack(1)", 1).due("told(11)", 2).due("undo()", NOT);
        check.part("section 3, IMAGES above 9000 MONTHS");
        Run z = Run.of(check, "k1 0;").times(375, "month(24)").does("month(24)").due("keep(0)", 1).due("month(1)", FULL).due("goBack(1)", NOT);
        z.due("goBack(0)", 1).due("told(8)", 9024).due("month(1)", FULL).due("drift(1)", FULL);
    }

    private static void imagesWithoutRansom() {
        check.part("promise 32, without a RANSOM");
        Run x = new Run(check).does("seed(4)").due("keep(0)", 1).does("seed(5)").due("goBack(0)", 1).due("seed(6)", 4).due("goBack(1)", NOT).due("month(1)", NOT);
        x.told("k1 0;").due("goBack(0)", NOT).due("month(1)", 0);
    }
}
