/** The boundary cases of section 1 and of promises 1 to 7, a sentence at a time. */
public final class TextBoundsTest {
    private static final Check check = new Check("TextBoundsTest");
    private static final int NONE = Check.NONE, UNKNOWN = Check.UNKNOWN, OUTSIDE = Check.OUTSIDE, NOT = Check.NOT, FULL = Check.FULL;

    private static final String SIX_PAYERS = "p1 1;p2 2;p3 3;p4 4;p5 5;p6 6;";
    private static final String SIX_HOSTAGES = "h1;h2;h3;h4;h5;h6;";
    private static final String NINE_BIDS = "b1,2,3,4,5,6,7,8,9";

    public static void main(String[] args) {
        lettersAtMost();
        faultAtTheEndOfAFullText();
        boundsOfNumbers();
        boundsAreRead();
        figures();
        figuresOfEachNumber();
        kingFirstAndOnce();
        sixPayersAtMost();
        oneToNineBids();
        bidsAndBagsOnce();
        sixHostagesAtMost();
        blanks();
        blanksWithinNumbers();
        noOtherBlanks();
        everyLetterAtEachPlace();
        faultAtTheEnd();
        firstLetterThatHasOne();
        leastOfFaultsOfALetter();
        emptyText();
        newObject();
        feedBounds();
        feedFull();
        ransomBegins();
        ransomDropsImagesAndSteps();
        ransomEndsFreeAndDead();
        ransomEmptiesTheText();
        faultOfTheLatest();
        toldBounds();
        toldLeastAndMost();
        payerBounds();
        payerTellsAtBounds();
        bidBounds();
        check.end();
    }

    // ---- helpers

    /** An object of which much can be seen, so that a text with a fault could spoil much. */
    private static Run standing() {
        return Run.of(check, Check.WHOLE).does("seed(77)", "rate(0, 50)", "rate(2, 3)", "month(2)", "hostage(1, true)", "keep(1)",
            "raise(5)", "hostage(0, true)", "weigh(7, 56)", "write(0, 121)", "write(1, 90)");
    }

    private static void fault(String text, int number, int place) {
        standing().fault(text, number, place);
    }

    private static Run fits(String text, int payers) {
        return new Run(check).feeds(text).due("ransom()", payers).due("fault()", NONE);
    }

    // ---- section 1

    private static void lettersAtMost() {
        check.part("section 1, a text of 240 letters at most");
        Run x = new Run(check).feeds(" ".repeat(234) + "k7 3");
        x.due("told(7)", 238).due("feed(59)", 239).due("feed(32)", 240);
        x.due("feed(32)", FULL).due("feed(120)", FULL).due("told(7)", 240);
        x.due("ransom()", 0).due("told(0)", 7).due("told(1)", 3).due("told(7)", 0);
        check.part("section 1, letter 241 is no part of the text");
        Run y = new Run(check).feeds(" ".repeat(236) + "k7 3").due("feed(59)", FULL);
        y.due("ransom()", -11).due("fault()", 240);
    }

    private static void faultAtTheEndOfAFullText() {
        check.part("section 1, the end at the text's length, up to 240");
        fault(" ".repeat(235) + "k7 3", 1, 239);
        fault(" ".repeat(236) + "k7 3", 1, 240);
        fault(" ".repeat(238) + "k7", 1, 240);
        fault(" ".repeat(239) + "k", 1, 240);
        fault(" ".repeat(239) + "p", 1, 239);
        fault("k" + "1".repeat(239), 2, 1);
        fault("k1 1;" + " ".repeat(234) + "x", 1, 239);
        fault("k1 1;" + " ".repeat(234) + "k", 3, 239);
        fits("k1 1;" + " ".repeat(235), 0);
    }

    private static void boundsOfNumbers() {
        bounds("P 1 .. 999", "k", 1, 999, " 0;");
        bounds("D 0 .. 99", "k1 ", 0, 99, ";");
        bounds("G 0 .. 999", "k1 1;p", 0, 999, " 0;");
        bounds("S 0 .. 9", "k1 1;p1 ", 0, 9, ";");
        bounds("B 0 .. 999, the first", "k1 1;b", 0, 999, ",1;");
        bounds("B 0 .. 999, the second", "k1 1;b1,", 0, 999, ";");
        bounds("B 0 .. 999, the ninth", "k1 1;b1,2,3,4,5,6,7,8,", 0, 999, ";");
        bounds("F 1 .. 99", "k1 1;h", 1, 99, ";");
        bounds("F 1 .. 99, of the sixth", "k1 1;h1;h1;h1;h1;h1;h", 1, 99, ";");
        bounds("W 1 .. 99", "k1 1;w", 1, 99, " 1;");
        bounds("N 1 .. 8", "k1 1;w1 ", 1, 8, ";");
    }

    /** What is below 0 needs a sign that is no word. */
    private static void bounds(String what, String head, int least, int most, String tail) {
        check.part("section 1, " + what);
        int payers = head.indexOf('p') >= 0 ? 1 : 0;
        fits(head + least + tail, payers);
        fits(head + most + tail, payers);
        fault(head + (most + 1) + tail, 2, head.length());
        fault(head + (least - 1) + tail, least == 0 ? 1 : 2, head.length());
    }

    private static void boundsAreRead() {
        check.part("section 1, numbers at their bounds are those that are told");
        fits("k1 0;", 0).due("told(0)", 1).due("told(1)", 0);
        fits("k999 99;", 0).due("told(0)", 999).due("told(1)", 99);
        fits("k1 1;p0 0;p999 9;", 2).due("payer(0, 0)", 0).due("payer(0, 1)", 0).due("payer(1, 0)", 999).due("payer(1, 1)", 9);
        fits("k1 1;b0,999;", 0).due("bid(0)", 0).due("bid(1)", 999);
        fits("k1 1;h1;h99;", 0).does("hostage(0, true)").due("homeOrder(-1)", 1).does("hostage(0, false)", "hostage(1, true)").due("homeOrder(-1)", 99);
        fits("k1 1;w1 1;", 0).due("told(5)", 1).due("told(6)", 1);
        fits("k1 1;w99 8;", 0).due("told(5)", 8).due("told(6)", 99);
    }

    private static void figures() {
        check.part("section 1, NUMBERS have one to three figures");
        fits("k7 0;", 0).due("told(0)", 7);
        fits("k07 0;", 0).due("told(0)", 7);
        fits("k007 0;", 0).due("told(0)", 7);
        fits("k777 0;", 0).due("told(0)", 777);
        fault("k0007 0;", 2, 1);
        fault("k7777 0;", 2, 1);
        fault("k 7;", 1, 3);
        fault("k;", 1, 1);
        fits("k1 000;", 0).due("told(1)", 0);
        fault("k1 0000;", 2, 3);
    }

    private static void figuresOfEachNumber() {
        check.part("section 1, a NUMBER of four figures or more, at its first");
        String[][] around = {{"k", " 0;"}, {"k1 ", ";"}, {"k1 1;p", " 0;"}, {"k1 1;p1 ", ";"}, {"k1 1;b", ",1;"}, {"k1 1;b1,", ";"},
            {"k1 1;h", ";"}, {"k1 1;w", " 1;"}, {"k1 1;w1 ", ";"}};
        for (String[] a : around) {
            int payers = a[0].indexOf('p') >= 0 ? 1 : 0;
            fits(a[0] + "1" + a[1], payers);
            fits(a[0] + "01" + a[1], payers);
            fits(a[0] + "001" + a[1], payers);
            fits(a[0] + "  001 " + a[1], payers);
            fault(a[0] + "0001" + a[1], 2, a[0].length());
            fault(a[0] + "00001" + a[1], 2, a[0].length());
            fault(a[0] + "4294967297" + a[1], 2, a[0].length());
            fault(a[0] + "18446744073709551617" + a[1], 2, a[0].length());
            fault(a[0] + "  0001" + a[1], 2, a[0].length() + 2);
            fault(a[0] + "0001", 2, a[0].length());
            fault(a[0] + "0001x", 2, a[0].length());
        }
    }

    private static void kingFirstAndOnce() {
        check.part("section 1, 'k' first");
        for (String clause : new String[] {"p1 1;", "b1;", "h1;", "w1 1;"}) {
            fault(clause, 1, 0);
            fault(clause + "k1 1;", 1, 0);
            fault("  " + clause, 1, 2);
            new Run(check).does("feed(107)", "feed(49)", "feed(32)", "feed(49)", "feed(59)").feeds(clause).due("ransom()", clause.startsWith("p") ? 1 : 0);
        }
        check.part("section 1, 'k' once");
        fault("k1 1;k1 1;", 3, 5);
        fault("k1 1;k", 3, 5);
        fault("k1 1; k", 3, 6);
        fault("k1 1;p1 1;k1 1;", 3, 10);
        fault("k1 1;k0 1;", 3, 5);
        fault("k1 1;kk", 3, 5);
        fault("kk1 1;", 1, 1);
    }

    private static void sixPayersAtMost() {
        check.part("section 1, 6 PAYERS at most");
        fits("k1 1;", 0).due("told(2)", 0);
        fits("k1 1;" + SIX_PAYERS.substring(0, 25), 5).due("told(2)", 5);
        fits("k1 1;" + SIX_PAYERS, 6).due("told(2)", 6).due("payer(5, 0)", 6).due("payer(6, 0)", UNKNOWN);
        fault("k1 1;" + SIX_PAYERS + "p7 7;", 3, 35);
        fault("k1 1;" + SIX_PAYERS + "p", 3, 35);
        fault("k1 1;" + SIX_PAYERS + "p1000 1;", 3, 35);
        fault("k1 1;" + SIX_PAYERS + " h1; p7 7;", 3, 40);
        fault("k1 1;" + SIX_PAYERS + "p7 7;p8 8;", 3, 35);
    }

    private static void oneToNineBids() {
        check.part("section 1, 1 to 9 BIDS");
        fault("k1 1;b;", 1, 6);
        fault("k1 1;b ;", 1, 7);
        fault("k1 1;b,1;", 1, 6);
        fault("k1 1;b1,;", 1, 8);
        fits("k1 1;b4;", 0).due("told(3)", 1).due("bid(0)", 4).due("bid(1)", NONE);
        fits("k1 1;b1,2,3,4,5,6,7,8;", 0).due("told(3)", 8).due("bid(7)", 8).due("bid(8)", NONE);
        fits("k1 1;" + NINE_BIDS + ";", 0).due("told(3)", 9).due("bid(8)", 9).due("bid(9)", NONE);
        check.part("section 1, a tenth B: at its ','");
        fault("k1 1;" + NINE_BIDS + ",10;", 1, 23);
        fault("k1 1;" + NINE_BIDS + "  ,10;", 1, 25);
        fault("k1 1;" + NINE_BIDS + ",", 1, 23);
        fault("k1 1;" + NINE_BIDS + ",1000;", 1, 23);
        fault("k1 1;" + NINE_BIDS, 1, 23);
        fault("k1 1;b1,2,3,4,5,6,7,8,1000,10;", 2, 22);
    }

    private static void bidsAndBagsOnce() {
        check.part("section 1, 'b' once");
        fits("k1 1;b1;w1 1;", 0);
        fault("k1 1;b1;b1;", 3, 8);
        fault("k1 1;b1;b", 3, 8);
        fault("k1 1;b1;h1;b1;", 3, 11);
        fault("k1 1;" + NINE_BIDS + ";b1;", 3, 24);
        check.part("section 1, 'w' once");
        fault("k1 1;w1 1;w1 1;", 3, 10);
        fault("k1 1;w1 1;w", 3, 10);
        fault("k1 1;w1 1;b1;w1 1;", 3, 13);
    }

    private static void sixHostagesAtMost() {
        check.part("section 1, 6 HOSTAGES at most");
        fits("k1 1;", 0).due("told(4)", 0).due("hostage(0, true)", UNKNOWN);
        fits("k1 1;h1;h2;h3;h4;h5;", 0).due("told(4)", 5).due("hostage(4, true)", 0).due("hostage(5, true)", UNKNOWN);
        fits("k1 1;" + SIX_HOSTAGES, 0).due("told(4)", 6).due("hostage(5, true)", 0).due("hostage(6, true)", UNKNOWN);
        fault("k1 1;" + SIX_HOSTAGES + "h7;", 3, 23);
        fault("k1 1;" + SIX_HOSTAGES + "h", 3, 23);
        fault("k1 1;" + SIX_HOSTAGES + "h0;", 3, 23);
        fault("k1 1;" + SIX_HOSTAGES + "p1 1; h7;", 3, 29);
    }

    private static void blanks() {
        check.part("section 1, blanks may stand anywhere but within NUMBERS");
        Run x = fits("  k  300  10  ;  p  400  2  ;  b  120  ,  260  ;  h  5  ;  w  20  5  ;  ", 1);
        x.due("told(0)", 300).due("told(1)", 10).due("payer(0, 0)", 400).due("payer(0, 1)", 2).due("bid(0)", 120).due("bid(1)", 260);
        x.due("told(4)", 1).due("told(5)", 5).due("told(6)", 20);
        fits("k300 10;p400 2;b120,260;h5;w20 5;", 1);
        check.part("section 1, two NUMBERS side by side need a blank");
        fits("k30 10;", 0).due("told(0)", 30).due("told(1)", 10);
        fits("k30  10;", 0).due("told(0)", 30).due("told(1)", 10);
        fault("k310;", 1, 4);
        fault("k3010;", 2, 1);
        fault("k1 1;p12;", 1, 8);
        fault("k1 1;w12;", 1, 8);
    }

    private static void blanksWithinNumbers() {
        check.part("section 1, blanks within NUMBERS part them");
        fault("k3 00 10;", 1, 6);
        fault("k3 0 0;", 1, 5);
        fault("k1 1;p1 2 3;", 1, 10);
        fault("k1 1;b1 2;", 1, 8);
        fault("k1 1;h1 2;", 1, 8);
        fault("k1 1;w1 2 3;", 1, 10);
    }

    private static void noOtherBlanks() {
        check.part("section 1, no letter but 32 is a blank");
        for (int c : new int[] {0, 9, 10, 13, 31, 33, 160, 255}) {
            char sign = (char) c;
            fault(sign + "k1 1;", 1, 0);
            fault("k" + sign + "1 1;", 1, 1);
            fault("k1" + sign + "1;", 1, 2);
            fault("k1 1" + sign + ";", 1, 4);
            fault("k1 1;" + sign, 1, 5);
            fault("k1 1;b1" + sign + ",1;", 1, 7);
        }
    }

    /** Each of the 256 letters at each kind of place. */
    private static void everyLetterAtEachPlace() {
        check.part("section 1, a letter that cannot stand there");
        for (int c = 0; c <= 255; c++) {
            char sign = (char) c;
            boolean figure = c >= '0' && c <= '9';
            after("", sign, c == 'k', c == ' ');
            after("k", sign, figure || c == ' ', false);
            after("k1", sign, figure || c == ' ', false);
            after("k1 1", sign, figure || c == ' ', c == ';');
            after("k1 1;", sign, "pbhw".indexOf(c) >= 0, c == ' ');
            after("k1 1;b1", sign, figure || c == ' ' || c == ',', c == ';');
            after("k1 1;h1", sign, figure || c == ' ', c == ';');
            after("k1 1;" + NINE_BIDS, sign, figure || c == ' ', c == ';');
        }
    }

    /** Goes on: the text's end is its fault; whole: it has none; else this letter cannot stand. */
    private static void after(String head, char sign, boolean goesOn, boolean whole) {
        String text = head + sign;
        if (whole) {
            fits(text, 0);
            return;
        }
        Run x = new Run(check);
        boolean zero = head.equals("k") && sign == '0';
        boolean again = head.equals("k1 1;") && sign == 'k';
        x.fault(text, zero ? 2 : again ? 3 : 1, goesOn && !zero ? text.length() : head.length());
    }

    private static void faultAtTheEnd() {
        check.part("section 1, the end at the text's length");
        String whole = "k1 2;p3 4;b5,6;h7;w8 8;";
        for (int length = 1; length <= whole.length(); length++) {
            String text = whole.substring(0, length);
            if (text.endsWith(";")) {
                fits(text, length >= 10 ? 1 : 0);
            } else {
                fault(text, 1, length);
                fault(text + "   ", 1, length + 3);
            }
        }
    }

    private static void firstLetterThatHasOne() {
        check.part("section 1, FAULTS at the first letter that has one");
        fault("k0 1;x", 2, 1);
        fault("k1 100;k", 2, 3);
        fault("k1 1x;k0 0;", 1, 4);
        fault("k1 1;k1 1;x", 3, 5);
        fault("k1 1;p1 10x", 2, 8);
        fault("k1 1;p1 10", 2, 8);
        fault("k1 1;b1000,,", 2, 6);
        fault("k1 1;b1,,1000", 1, 8);
        fault("k1 1;h100", 2, 6);
        fault("k1 1;w100 9;", 2, 6);
        fault("k0 100;", 2, 1);
    }

    private static void leastOfFaultsOfALetter() {
        check.part("section 1, of the FAULTS of a letter the least");
        fault("k1 k", 1, 3);
        fault("k1 1k", 1, 4);
        fault("k1 1;b1;p1 b", 1, 11);
        fault("k1 1;b1b", 1, 7);
        fault("k1 1;w1 1;p1 w", 1, 13);
        fault("k1 1;" + SIX_PAYERS + "h1p", 1, 37);
        fault("k1 1;" + SIX_HOSTAGES + "p1 h", 1, 26);
    }

    private static void emptyText() {
        for (String text : new String[] {"", " ", "  ", " ".repeat(239), " ".repeat(240)}) {
            check.part("section 1, a text of " + text.length() + " blanks has no FAULT: no RANSOM");
            new Run(check).feeds(text).due("ransom()", 0).due("fault()", NONE).due("told(0)", 0).due("month(1)", NOT);
            Run x = standing().feeds(text).due("ransom()", 0).due("fault()", NONE);
            for (int what = 0; what <= 14; what++) {
                x.due("told(" + what + ")", 0);
            }
            x.due("payer(0, 0)", UNKNOWN).due("bid(0)", NONE).due("hostage(0, true)", UNKNOWN).due("weigh(1, 1)", UNKNOWN);
            x.due("month(1)", NOT).due("raise(1)", NOT).due("free()", NOT).due("dies()", NOT).due("drift(1)", NOT).due("monthsTo()", NOT);
            x.due("undo()", NOT).due("goBack(0)", NOT).due("goBack(1)", NOT).due("seed(1)", 77);
        }
    }

    // ---- promises 1 to 7

    private static void newObject() {
        check.part("promise 1, no RANSOM");
        Run x = new Run(check);
        for (int what = 0; what <= 14; what++) {
            x.due("told(" + what + ")", 0);
        }
        x.due("told(-1)", OUTSIDE).due("told(15)", OUTSIDE).due("fault()", NONE);
        x.due("payer(0, 0)", UNKNOWN).due("bid(0)", NONE).due("rate(0, 0)", UNKNOWN).due("hostage(0, false)", UNKNOWN);
        x.due("month(1)", NOT).due("raise(1)", NOT).due("free()", NOT).due("dies()", NOT).due("drift(1)", NOT).due("undo()", NOT);
        x.due("brings(100)", 0).due("leastRate(0)", 0).due("leastRate(1)", NONE).due("rateOfMost()", 0);
        x.due("spread(0, -1)", 0).due("spread(1, -1)", NONE).due("spread(0, 0)", UNKNOWN);
        x.due("sell(0, 0)", 0).due("sell(9, 0)", 0).due("sell(0, 1)", NONE).due("homeOrder(-1)", 0).due("homeOrder(0)", NONE);
        x.due("spared(100, 0)", 0).due("spared(100, 1)", NONE).due("lives(60)", 1000000).due("monthsTo()", NOT);
        x.due("weigh(1, 0)", UNKNOWN).due("isShort(-1)", 0).due("isShort(-2)", NONE).due("isShort(0)", NONE);
        x.due("write(0, 0)", UNKNOWN).due("judge()", NONE).due("goBack(0)", NOT).due("goBack(1)", NOT);
        x.due("tear()", 0).due("seed(0)", 0);
    }

    private static void feedBounds() {
        check.part("promise 2, a number 0 .. 255");
        Run x = new Run(check).does("feed(107)");
        x.due("feed(-1)", OUTSIDE).due("feed(256)", OUTSIDE);
        x.due("feed(-2147483648)", OUTSIDE).due("feed(2147483647)", OUTSIDE).due("told(7)", 1);
        x.due("feed(0)", 2).due("feed(255)", 3).due("told(7)", 3);
    }

    private static void feedFull() {
        check.part("promise 2, OUTSIDE, FULL (240)");
        Run x = new Run(check).feeds("k".repeat(239));
        x.due("feed(256)", OUTSIDE).due("feed(32)", 240).due("feed(32)", FULL).due("feed(0)", FULL).due("feed(255)", FULL);
        x.due("feed(-1)", OUTSIDE).due("feed(256)", OUTSIDE).due("told(7)", 240);
        check.part("promise 2, behind ransom() there is room again");
        x.due("ransom()", -11).due("fault()", 1).due("feed(32)", 1);
    }

    private static void ransomBegins() {
        check.part("promise 3, MONTH 0, RATES 0, THE CHEST empty, all at HOME; nothing WEIGHED, no BOOK");
        Run x = standing().feeds(Check.WHOLE).due("ransom()", 3);
        int[] due = {300, 10, 3, 4, 4, 5, 20, 0, 0, 0, 0, 0, 0, 0, 0};
        for (int what = 0; what < due.length; what++) {
            x.due("told(" + what + ")", due[what]);
        }
        int[] goods = {400, 90, 250};
        for (int p = 0; p < 3; p++) {
            x.due("payer(" + p + ", 0)", goods[p]).due("payer(" + p + ", 2)", 0);
        }
        x.due("isShort(-1)", 45).due("judge()", NONE).due("seed(0)", 77);
    }

    private static void ransomDropsImagesAndSteps() {
        check.part("promise 3, IMAGES, what could be undone are gone");
        Run x = standing().does("keep(0)", "rate(1, 1)").feeds("k1 1;").due("ransom()", 0);
        x.due("goBack(0)", NOT).due("goBack(1)", NOT).due("undo()", NOT);
        check.part("promise 3, with a FAULT they are not");
        Run y = standing().feeds("k1 1;x").due("ransom()", -11);
        y.due("told(14)", 2).due("undo()", 1).due("told(14)", 1).due("goBack(0)", NOT).due("goBack(1)", 1).due("told(8)", 2).due("undo()", NOT);
    }

    private static void ransomEndsFreeAndDead() {
        check.part("promise 3, a new RANSOM's king is neither free nor DEAD");
        Run.of(check, "k1 1;h1;").does("hostage(0, true)", "free()").due("told(11)", 1).feeds("k9 0;").due("ransom()", 0).due("told(11)", 0).due("month(1)", 0);
        Run.of(check, "k1 1;h1;").does("dies()").due("told(11)", 2).feeds("k9 0;").due("ransom()", 0).due("told(11)", 0).due("dies()", 0);
        check.part("promise 3, with a FAULT he stays so");
        Run.of(check, "k1 1;h1;").does("dies()").fault("k0 1;", 2, 1).feeds("k").due("ransom()", -11).due("told(11)", 2).due("month(1)", NOT);
    }

    private static void ransomEmptiesTheText() {
        check.part("promise 3, THE TEXT is empty then, with a FAULT, too");
        Run x = new Run(check).feeds("k1").due("told(7)", 2).due("ransom()", -11).due("told(7)", 0);
        x.feeds("k5 5;").due("told(7)", 5).due("ransom()", 0).due("told(7)", 0).due("told(0)", 5);
        check.part("promise 3, -10 less the number of its FAULT");
        new Run(check).feeds("x").due("ransom()", -11).feeds("k0").due("ransom()", -12).feeds("k1 1;k").due("ransom()", -13);
    }

    private static void faultOfTheLatest() {
        check.part("promise 4, the FAULT of the latest ransom(); NONE");
        Run x = new Run(check).due("fault()", NONE).feeds("k1 1;x").due("fault()", NONE).due("ransom()", -11).due("fault()", 5);
        x.feeds("k0").due("fault()", 5).due("ransom()", -12).due("fault()", 1);
        x.feeds("x").due("ransom()", -11).due("fault()", 0);
        x.due("ransom()", 0).due("fault()", NONE);
        x.feeds("k").due("ransom()", -11).due("fault()", 1).feeds("k1 1;").due("ransom()", 0).due("fault()", NONE);
    }

    private static void toldBounds() {
        check.part("promise 5, OUTSIDE");
        for (Run x : new Run[] {new Run(check), standing(), standing().does("dies()")}) {
            x.due("told(-1)", OUTSIDE).due("told(15)", OUTSIDE).due("told(-2147483648)", OUTSIDE).due("told(2147483647)", OUTSIDE);
        }
        int[] due = {305, 10, 3, 4, 4, 5, 20, 0, 2, 293, 3, 0, 1, 2, 2};
        Run x = standing();
        for (int what = 0; what < due.length; what++) {
            x.due("told(" + what + ")", due[what]);
        }
    }

    private static void toldLeastAndMost() {
        check.part("promise 5, the least of each");
        Run least = Run.of(check, "k1 0;");
        int[] few = {1, 0, 0, 0, 0, 0, 0, 0, 0, 0, 0, 0, 0, 0, 0};
        for (int what = 0; what < few.length; what++) {
            least.due("told(" + what + ")", few[what]);
        }
        check.part("promise 5, the most of each");
        Run most = Run.of(check, "k999 99;p999 0;p1 1;p1 1;p1 1;p1 1;p1 1;" + NINE_BIDS + ";" + SIX_HOSTAGES + "w99 8;");
        most.does("rate(0, 100)").times(10, "raise(999)");
        for (int h = 0; h < 6; h++) {
            most.does("hostage(" + h + ", true)");
        }
        most.times(4, "month(24)").times(6, "weigh(255, 999)").times(15, "write(5, 999)").feeds("k".repeat(240));
        int[] many = {9999, 99, 6, 9, 6, 8, 99, 240, 96, 999, 63, 0, 6, 15, 20};
        for (int what = 0; what < many.length; what++) {
            check.due("told(" + what + ")", most.ask("told(" + what + ")"), many[what]);
        }
    }

    private static void payerBounds() {
        check.part("promise 6, UNKNOWN");
        Run x = Run.of(check, "k1 1;p10 0;p20 9;");
        x.due("payer(-1, 0)", UNKNOWN).due("payer(0, 0)", 10).due("payer(1, 0)", 20).due("payer(2, 0)", UNKNOWN);
        x.due("payer(-2147483648, 0)", UNKNOWN).due("payer(2147483647, 0)", UNKNOWN);
        check.part("promise 6, OUTSIDE");
        x.due("payer(1, -1)", OUTSIDE).due("payer(1, 0)", 20).due("payer(1, 5)", 0).due("payer(1, 6)", OUTSIDE);
        x.due("payer(1, -2147483648)", OUTSIDE).due("payer(1, 2147483647)", OUTSIDE);
        check.part("promise 6, UNKNOWN ahead of OUTSIDE");
        x.due("payer(2, 6)", UNKNOWN).due("payer(-1, -1)", UNKNOWN);
    }

    private static void payerTellsAtBounds() {
        check.part("section 2, what he tells, HIDES and PAYS, at the bounds of S and r");
        Run x = Run.of(check, "k1 1;p999 9;p999 0;p0 9;p1 1;p1 0;");
        x.dues("payer(0, ", 0, ")", 999, 9, 0, 999, 0, 0);
        x.does("rate(0, 100)", "rate(1, 100)", "rate(2, 100)", "rate(3, 9)", "rate(4, 99)");
        x.dues("payer(0, ", 0, ")", 999, 9, 100, 99, 900, 99);
        x.dues("payer(1, ", 0, ")", 999, 0, 100, 999, 0, 999);
        x.dues("payer(2, ", 0, ")", 0, 9, 100, 0, 0, 0);
        x.dues("payer(3, ", 0, ")", 1, 1, 9, 1, 0, 0);
        x.dues("payer(4, ", 0, ")", 1, 0, 99, 1, 0, 0);
        x.does("rate(3, 10)", "rate(4, 100)");
        x.dues("payer(3, ", 0, ")", 1, 1, 10, 0, 1, 0);
        x.dues("payer(4, ", 0, ")", 1, 0, 100, 1, 0, 1);
    }

    private static void bidBounds() {
        check.part("promise 7, BID of a MONTH; NONE");
        Run x = Run.of(check, "k1 1;" + NINE_BIDS + ";");
        x.due("bid(-1)", NONE).due("bid(0)", 1).due("bid(8)", 9).due("bid(9)", NONE);
        x.due("bid(-2147483648)", NONE).due("bid(2147483647)", NONE);
        Run.of(check, "k1 1;b0;").due("bid(-1)", NONE).due("bid(0)", 0).due("bid(1)", NONE);
        Run.of(check, "k1 1;").due("bid(0)", NONE);
        check.part("promise 7, none behind, when a longer text stood ahead of it");
        Run.of(check, "k1 1;" + NINE_BIDS + ";").told("k1 1;b7;").due("bid(0)", 7).due("bid(1)", NONE).due("bid(8)", NONE);
    }
}
