import java.util.ArrayList;
import java.util.List;
import java.util.Set;

/**
 * A run of calls on a new object, each with the answer that is due. A call that
 * is refused, or that only asks, must change nothing: the run is made again on
 * two more objects, on one of them with that call behind it, and all that can
 * be seen of both is compared.
 */
final class Run {
    private static final int FIRST_REFUSAL = -1000000001;
    private static final int FIRST_FAULT = -11;

    private static final Set<String> ASKING = Set.of("fault", "told", "payer", "bid", "brings", "leastRate", "rateOfMost", "spread",
        "sell", "homeOrder", "letters", "spared", "lives", "monthsTo", "isShort", "judge");

    private final Check check;
    private final Subject subject = Subject.ofClass();
    private final List<String> made = new ArrayList<>();

    Run(Check check) {
        this.check = check;
    }

    static Run of(Check check, String text) {
        return new Run(check).told(text);
    }

    /** Calls that make ready; none may be refused. */
    Run does(String... calls) {
        for (String call : calls) {
            make(call);
        }
        return this;
    }

    Run times(int n, String call) {
        for (int i = 0; i < n; i++) {
            make(call);
        }
        return this;
    }

    Run feeds(String text) {
        for (int i = 0; i < text.length(); i++) {
            make("feed(" + (int) text.charAt(i) + ")");
        }
        return this;
    }

    /** A text that has no fault. */
    Run told(String text) {
        feeds(text);
        make("ransom()");
        return this;
    }

    private void make(String call) {
        made.add(call);
        int got = subject.call(call);
        if (got <= FIRST_FAULT) {
            throw new IllegalStateException("the test's own " + call + " was refused: " + got);
        }
    }

    /** An answer alone, for a run so long that it cannot be looked through behind it. */
    int ask(String call) {
        return subject.call(call);
    }

    Run due(String call, int want) {
        check.due(call, subject.call(call), want);
        if (want <= FIRST_REFUSAL || ASKING.contains(call.substring(0, call.indexOf('(')))) {
            changesNothing(call);
        } else {
            made.add(call);
        }
        return this;
    }

    /** Answers of like calls that differ by one number, told one behind the other. */
    Run dues(String head, int from, String tail, int... wants) {
        for (int i = 0; i < wants.length; i++) {
            due(head + (from + i) + tail, wants[i]);
        }
        return this;
    }

    private void changesNothing(String call) {
        Subject without = again();
        Subject with = again();
        with.call(call);
        alike("nothing is changed by " + call, with, without, true);
    }

    /** A text with a fault, behind which all but the fault's place is as it was. */
    Run fault(String text, int number, int place) {
        Subject without = again();
        Subject with = again();
        for (int i = 0; i < text.length(); i++) {
            with.call("feed(" + (int) text.charAt(i) + ")");
        }
        String name = " of '" + text + "'";
        check.due("ransom()" + name, with.call("ransom()"), -10 - number);
        check.due("fault()" + name, with.call("fault()"), place);
        check.due("told(7) behind ransom()" + name, with.call("told(7)"), 0);
        alike("all is as it was behind ransom()" + name, with, without, false);
        return this;
    }

    private void alike(String name, Subject one, Subject other, boolean withFault) {
        String difference = Probe.difference(one, other, withFault);
        check.due(difference.isEmpty() ? name : name + ": " + difference, difference.isEmpty() ? 1 : 0, 1);
    }

    private Subject again() {
        Subject twin = Subject.ofClass();
        for (String call : made) {
            twin.call(call);
        }
        return twin;
    }
}
