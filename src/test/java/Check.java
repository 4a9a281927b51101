/** Counts answers that are not the ones that are due, and prints them. */
final class Check {
    static final String WHOLE = "k300 10;p400 2;p90 9;p250 0;b120,260,200,280;h5;h2;h9;h2;w20 5;";

    static final int NONE = -1, UNKNOWN = -1000000001, OUTSIDE = -1000000002, NOT = -1000000003, FULL = -1000000004;

    private final String test;
    private String part = "";
    private int seen;
    private int wrong;

    Check(String test) {
        this.test = test;
    }

    void part(String name) {
        part = name;
    }

    void due(String call, long got, long want) {
        seen++;
        if (got != want) {
            wrong++;
            System.out.println(part + ": " + call + " answered " + got + ", due is " + want);
        }
    }

    /** Prints what came out; ends the program with 1 if anything was wrong. */
    void end() {
        System.out.println(test + ": " + seen + " answers, " + wrong + " wrong");
        if (wrong != 0 || seen == 0) {
            System.exit(1);
        }
    }

    static void feed(KingRansom x, String text) {
        for (int i = 0; i < text.length(); i++) {
            x.feed(text.charAt(i));
        }
    }

    static int tell(KingRansom x, String text) {
        feed(x, text);
        return x.ransom();
    }

    static KingRansom of(String text) {
        KingRansom x = new KingRansom();
        int got = tell(x, text);
        if (got < 0) {
            throw new IllegalStateException("the test's own text has a fault: " + text + ", " + got);
        }
        return x;
    }
}
