import java.util.NoSuchElementException;
import java.util.Objects;

/** What every test shares: comparing answers, and writing a call's end as one text. */
final class Check {
    static final String ISE = "throws.IllegalStateException";
    static final String IOOBE = "throws.IndexOutOfBoundsException";
    static final String NSEE = "throws.NoSuchElementException";
    static final String AE = "throws.ArithmeticException";
    static final String IAE = "throws.IllegalArgumentException";
    static final String UOE = "throws.UnsupportedOperationException";

    private static int checks = 0;
    private static int wrong = 0;

    private Check() {
    }

    static void due(String what, Object got, Object want) {
        checks++;
        if (!Objects.equals(got, want)) {
            wrong++;
            System.out.println(what + " answered " + got + ", due is " + want);
        }
    }

    /** The answer of call(), or "throws." and the exact name of what it threw. */
    static String call(GuardedCalls x) {
        try {
            return String.valueOf(x.call());
        } catch (IllegalStateException | IndexOutOfBoundsException | NoSuchElementException
                | ArithmeticException | IllegalArgumentException | UnsupportedOperationException e) {
            return "throws." + e.getClass().getSimpleName();
        }
    }

    static void dueCall(String what, GuardedCalls x, Object want) {
        due(what + ": call()", call(x), String.valueOf(want));
    }

    /** All the events that are kept, the latest one first. */
    static String events(GuardedCalls x) {
        StringBuilder all = new StringBuilder();
        for (int i = 0; x.event(i) != -1; i++) {
            all.append(i == 0 ? "" : " ").append(x.event(i));
        }
        return all.toString();
    }

    static void dueEvents(String what, GuardedCalls x, String want) {
        due(what + ": events", events(x), want);
    }

    /** All of tell(0) .. tell(7). */
    static String tells(GuardedCalls x) {
        StringBuilder all = new StringBuilder();
        for (int what = 0; what < 8; what++) {
            all.append(what == 0 ? "" : " ").append(x.tell(what));
        }
        return all.toString();
    }

    /** A new object with these policies laid on, the first one innermost. */
    static GuardedCalls with(int... kinds) {
        GuardedCalls x = new GuardedCalls();
        for (int i = 0; i < kinds.length; i++) {
            due("lay(" + kinds[i] + ")", x.lay(kinds[i]), i + 1);
        }
        return x;
    }

    /** Outcomes of one way that take the same time. */
    static void outcomes(GuardedCalls x, int n, int way, int latency, int value) {
        for (int i = 0; i < n; i++) {
            due("outcome " + i, x.outcome(way, latency, value), true);
        }
    }

    /** Ticks that pass, up to 200: more than one pass(..) takes. */
    static void pass(GuardedCalls x, int ticks) {
        due("pass", x.pass(Math.min(ticks, 100)), true);
        due("pass", x.pass(Math.max(0, ticks - 100)), true);
    }

    static void finish() {
        System.out.println(checks + " answers, " + wrong + " of them wrong");
        if (wrong != 0) {
            System.exit(1);
        }
    }
}
