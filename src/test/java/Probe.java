import java.util.ArrayList;
import java.util.List;

/**
 * All that can be seen of an object, in calls that use it up: what is told,
 * each step back, both images, and the text that waits. Two objects of which
 * the same is seen are held to be alike.
 */
final class Probe {
    /** Steps back behind these are only counted, as the object's calls are. */
    private static final int STEPS_SEEN_WHOLE = 7;

    private final Subject subject;
    private final int mostCalls;
    private final List<String> seen = new ArrayList<>();

    private Probe(Subject subject, int mostCalls) {
        this.subject = subject;
        this.mostCalls = mostCalls;
    }

    /** What is seen first otherwise in one than in the other; empty: they are alike. */
    static String difference(Subject one, Subject other, boolean withFault) {
        int most = Math.min(one.callsLeft(), other.callsLeft());
        List<String> a = new Probe(one, most).all(withFault);
        List<String> b = new Probe(other, most).all(withFault);
        for (int i = 0; i < Math.max(a.size(), b.size()); i++) {
            String left = i < a.size() ? a.get(i) : "nothing";
            String right = i < b.size() ? b.get(i) : "nothing";
            if (!left.equals(right)) {
                return left + ", else " + right;
            }
        }
        return "";
    }

    private List<String> all(boolean withFault) {
        if (withFault) {
            see("fault()");
        }
        now();
        tried();
        stepsBack();
        for (int i = 0; i <= 1; i++) {
            see("goBack(" + i + ")");
            sectionTwo();
            theSeed();
        }
        see("judge()");
        see("tear()");
        see("isShort(-1)");
        waitingText();
        return seen;
    }

    private void now() {
        for (int what = 0; what <= 14; what++) {
            see("told(" + what + ")");
        }
        for (int p = 0; p <= 6; p++) {
            if (see("payer(" + p + ", 0)") < 0) {
                break;
            }
            see("payer(" + p + ", 1)");
            see("payer(" + p + ", 2)");
        }
        for (int month = 0; month <= 9; month++) {
            if (see("bid(" + month + ")") < 0) {
                break;
            }
        }
        theSeed();
    }

    private void theSeed() {
        int was = see("seed(0)");
        see("seed(" + was + ")");
    }

    private void tried() {
        for (int i = -1; i <= 6; i++) {
            if (see("homeOrder(" + i + ")") < 0) {
                break;
            }
        }
        see("monthsTo()");
        see("sell(0, 0)");
        see("sell(0, 1)");
        see("brings(50)");
        see("lives(3)");
        see("judge()");
        see("isShort(-2)");
        for (int i = -1; i <= 4; i++) {
            see("isShort(" + i + ")");
        }
    }

    private void stepsBack() {
        for (int step = 0; step <= 20; step++) {
            if (see("undo()") < 0) {
                return;
            }
            if (step < STEPS_SEEN_WHOLE) {
                sectionTwo();
            } else {
                see("told(8)");
            }
        }
    }

    private void sectionTwo() {
        for (int what : new int[] {0, 8, 9, 10, 11}) {
            see("told(" + what + ")");
        }
        for (int p = 0; p <= 6; p++) {
            if (see("payer(" + p + ", 0)") < 0) {
                break;
            }
            see("payer(" + p + ", 2)");
        }
    }

    private void waitingText() {
        see("ransom()");
        see("fault()");
        for (int what = 0; what <= 6; what++) {
            see("told(" + what + ")");
        }
    }

    private int see(String call) {
        if (seen.size() >= mostCalls) {
            return -1;
        }
        int answer = subject.call(call);
        seen.add(call + " is " + answer);
        return answer;
    }
}
