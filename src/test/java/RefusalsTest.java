import java.util.ArrayList;
import java.util.LinkedHashMap;
import java.util.List;
import java.util.Map;

/**
 * Terms: "REFUSALS, of several the first in this order", "What is refused
 * changes nothing". Every call, with each of its numbers at its bounds and one
 * step beyond them, in every kind of state: answered as the Model answers, and
 * all that can be seen behind it as with the Model.
 */
public final class RefusalsTest {
    private static final Check check = new Check("RefusalsTest");

    private static final int LEAST = Integer.MIN_VALUE, MOST = Integer.MAX_VALUE;
    private static final int FIRST_REFUSAL = -1000000001;

    private static final String MANY = "k300 7;p400 2;p90 9;p0 0;p999 3;p5 5;p60 1;b120,260,9;h5;h2;h9;h2;h7;h1;w20 8;";

    private static int refused;

    public static void main(String[] args) {
        List<String> calls = calls();
        for (Map.Entry<String, List<String>> state : states().entrySet()) {
            check.part("terms, " + state.getKey());
            for (String call : calls) {
                compare(state.getValue(), call);
            }
        }
        check.part("terms");
        check.due("many calls are refused", refused > 1000 ? 1 : 0, 1);
        check.end();
    }

    private static void compare(List<String> made, String call) {
        Subject real = ready(Subject.ofClass(), made);
        Subject model = ready(Subject.ofModel(), made);
        int answer = model.call(call);
        check.due(call, real.call(call), answer);
        if (answer <= FIRST_REFUSAL) {
            refused++;
            model = ready(Subject.ofModel(), made);
        }
        String difference = Probe.difference(real, model, true);
        check.due("what is so behind " + call + ": " + difference, difference.isEmpty() ? 1 : 0, 1);
    }

    private static Subject ready(Subject subject, List<String> made) {
        for (String call : made) {
            subject.call(call);
        }
        return subject;
    }

    // ---- states

    private static Map<String, List<String>> states() {
        Map<String, List<String>> all = new LinkedHashMap<>();
        all.put("a new object", new ArrayList<>());
        all.put("a text that waits", feeds("k12 3;p4 5"));
        all.put("a full text", feeds(" ".repeat(235) + "k12 3"));
        all.put("a king alone", told("k9 1;"));
        all.put("no RANSOM any more", told(MANY, "rate(0, 5)", "keep(0)", "ransom()"));
        all.put("at the beginning", told(MANY));
        all.put("much was done", told(MANY, DONE));
        all.put("he is free", told(MANY, "hostage(0, true)", "rate(3, 50)", "month(1)", "keep(1)", "free()", "weigh(3, 33)"));
        all.put("he is DEAD", told(MANY, "rate(3, 50)", "month(2)", "keep(0)", "raise(3)", "dies()", "write(3, 9)"));
        all.put("20 can be undone", told(MANY, times(25, "hostage(1, true)", "rate(1, 9)")));
        all.put("PRICE is 9999", told("k999 0;p9 9;", times(10, "raise(999)")));
        all.put("6 are WEIGHED, THE BOOK has 15", and(told(MANY, times(15, "write(1, 90)")), times(6, "weigh(3, 37)")));
        all.put("9000 MONTHS", told("k1 0;p9 0;", times(375, "month(24)")));
        all.put("9001 MONTHS", and(told("k1 0;p9 0;", times(375, "month(24)")), "month(1)"));
        all.put("9001 MONTHS, DEAD", and(told("k1 0;p9 0;", times(375, "month(24)")), "month(1)", "dies()"));
        all.put("a FAULT behind a RANSOM", told(MANY, "feed(107)", "ransom()", "feed(32)"));
        return all;
    }

    private static final String[] DONE = {"seed(2147483647)", "rate(0, 30)", "rate(3, 70)", "hostage(0, true)", "hostage(5, true)", "month(1)", "keep(0)",
        "raise(20)", "month(2)", "keep(1)", "hostage(3, true)", "drift(1)", "rate(1, 100)", "weigh(255, 155)", "write(0, 400)", "feed(107)"};

    private static List<String> feeds(String text) {
        List<String> calls = new ArrayList<>();
        for (int i = 0; i < text.length(); i++) {
            calls.add("feed(" + (int) text.charAt(i) + ")");
        }
        return calls;
    }

    private static List<String> told(String text, String... behind) {
        return and(and(feeds(text), "ransom()"), behind);
    }

    private static List<String> and(List<String> calls, String... behind) {
        calls.addAll(List.of(behind));
        return calls;
    }

    private static String[] times(int n, String... calls) {
        List<String> all = new ArrayList<>();
        for (int i = 0; i < n; i++) {
            all.addAll(List.of(calls));
        }
        return all.toArray(new String[0]);
    }

    // ---- calls

    private static List<String> calls() {
        List<String> all = new ArrayList<>();
        for (String none : new String[] {"ransom", "fault", "free", "dies", "undo", "rateOfMost", "monthsTo", "tear", "judge"}) {
            all.add(none + "()");
        }
        int[] payers = {-1, 0, 5, 6, LEAST, MOST};
        int[] rates = {-1, 0, 100, 101};
        int[] much = {-1, 0, 1, 9999, 10000};
        int[] marks = {-1, 0, 37, 999, 1000};
        one(all, "feed", -1, 0, 255, 256, LEAST, MOST);
        one(all, "told", -1, 0, 14, 15, LEAST, MOST);
        one(all, "bid", -1, 0, 2, 3, 8, 9, LEAST, MOST);
        one(all, "month", -1, 0, 1, 24, 25, LEAST, MOST);
        one(all, "drift", -1, 0, 1, 24, 25, LEAST, MOST);
        one(all, "raise", -1, 0, 1, 999, 1000, LEAST, MOST);
        one(all, "brings", -1, 0, 100, 101, LEAST, MOST);
        one(all, "leastRate", much);
        one(all, "homeOrder", -2, -1, 0, 5, 6, LEAST, MOST);
        one(all, "lives", -1, 0, 60, 61, LEAST, MOST);
        one(all, "isShort", -3, -2, -1, 0, 71, 72, LEAST, MOST);
        one(all, "seed", -1, 0, MOST, LEAST);
        one(all, "keep", -1, 0, 1, 2, LEAST, MOST);
        one(all, "goBack", -1, 0, 1, 2, LEAST, MOST);
        two(all, "payer", payers, new int[] {-1, 0, 5, 6});
        two(all, "rate", payers, rates);
        two(all, "spread", much, new int[] {-2, -1, 0, 5, 6, LEAST, MOST});
        two(all, "sell", new int[] {-1, 0, 9, 10}, new int[] {-1, 0, 1, 2});
        two(all, "spared", rates, much);
        two(all, "weigh", new int[] {-1, 0, 1, 3, 255, 256, LEAST, MOST}, marks);
        two(all, "write", payers, marks);
        for (int h : payers) {
            all.add("hostage(" + h + ", true)");
            all.add("hostage(" + h + ", false)");
        }
        for (String five : new String[] {"-1, 0, 0, 0, 0", "101, 0, 0, 0, 0", "0, -1, 0, 0, 0", "0, 101, 0, 0, 0", "0, 0, -1, 0, 0", "0, 0, 101, 0, 0",
            "0, 0, 0, -1, 0", "0, 0, 0, 10, 0", "0, 0, 0, 9, 10", "0, 0, 0, 9, -1", "0, 0, 0, 0, 1", "0, 0, 0, 0, 0", "100, 100, 100, 9, 9"}) {
            all.add("letters(" + five + ")");
        }
        return all;
    }

    private static void one(List<String> all, String name, int... values) {
        for (int v : values) {
            all.add(name + "(" + v + ")");
        }
    }

    private static void two(List<String> all, String name, int[] first, int[] second) {
        for (int a : first) {
            for (int b : second) {
                all.add(name + "(" + a + ", " + b + ")");
            }
        }
    }
}
