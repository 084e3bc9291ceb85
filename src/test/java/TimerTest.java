/** Promise 9, and what the timer does with a call. */
public final class TimerTest {
    public static void main(String[] args) {
        refusesWrongInputs();
        everySpanIsExact();
        cutOffOutcomeIsTaken();
        deadlineIsOfTheCall();
        deadlineHoldsInsideOnly();
        Check.finish();
    }

    private static void refusesWrongInputs() {
        GuardedCalls x = Check.with(4);
        int[] wrong = {-1, 101, Integer.MIN_VALUE, Integer.MAX_VALUE};
        for (int span : wrong) {
            Check.due("timer(" + span + ")", x.timer(span), false);
        }
        Check.outcomes(x, 1, 0, 50, 0);
        Check.dueCall("SPAN is still 10", x, Check.AE);
        Check.due("clock", x.tell(7), 10);
        Check.due("timer(100)", x.timer(100), true);
        Check.due("timer(0)", x.timer(0), true);
    }

    private static void everySpanIsExact() {
        for (int span = 0; span <= 51; span++) {
            for (int latency = Math.max(0, span - 1); latency <= Math.min(50, span + 1); latency++) {
                GuardedCalls x = Check.with(4);
                Check.due("pass(17)", x.pass(17), true);
                Check.due("timer", x.timer(span), true);
                Check.outcomes(x, 1, 0, latency, 5);
                boolean cut = latency > span;
                Check.dueCall(latency + " of " + span, x, cut ? Check.AE : "5");
                Check.due("clock", x.tell(7), 17 + Math.min(latency, span));
                Check.dueEvents(latency + " of " + span, x, cut ? "41" : "51");
            }
        }
        GuardedCalls x = Check.with(2, 4);
        Check.due("timer(100)", x.timer(100), true);
        Check.due("limiter(50, 1, 100)", x.limiter(50, 1, 100), true);
        Check.outcomes(x, 1, 0, 0, 0);
        Check.outcomes(x, 1, 0, 50, 9);
        Check.dueCall("permit", x, 0);
        Check.dueCall("50 of waiting, 50 of latency", x, 9);
        Check.due("clock", x.tell(7), 100);
    }

    private static void cutOffOutcomeIsTaken() {
        GuardedCalls x = Check.with(4);
        Check.due("timer(1)", x.timer(1), true);
        Check.outcomes(x, 1, 2, 2, 0);
        Check.outcomes(x, 1, 0, 1, 8);
        Check.dueCall("cut off", x, Check.AE);
        Check.due("tells", Check.tells(x), "0 0 0 0 2 1 1 1");
        Check.dueEvents("it did not fail", x, "41");
        Check.dueCall("the next one", x, 8);
        Check.due("tells", Check.tells(x), "0 0 0 0 2 0 2 2");
    }

    private static void deadlineIsOfTheCall() {
        GuardedCalls x = Check.with(3, 4);
        Check.due("timer(4)", x.timer(4), true);
        Check.outcomes(x, 1, 1, 2, 0);
        Check.outcomes(x, 1, 1, 1, 0);
        Check.outcomes(x, 1, 0, 0, 0);
        Check.dueCall("the second wait of 2 is cut off at 4", x, Check.AE);
        Check.due("clock", x.tell(7), 4);
        Check.dueCall("a new deadline", x, 0);
    }

    private static void deadlineHoldsInsideOnly() {
        // The limiter outside waits longer than the timer inside would let it.
        GuardedCalls x = Check.with(4, 2);
        Check.due("timer(1)", x.timer(1), true);
        Check.due("limiter(20, 1, 20)", x.limiter(20, 1, 20), true);
        Check.outcomes(x, 3, 0, 1, 6);
        Check.dueCall("permit", x, 6);
        Check.dueCall("waits 19", x, 6);
        Check.due("clock", x.tell(7), 21);
        // And so does the retry outside.
        x = Check.with(4, 3);
        Check.due("timer(0)", x.timer(0), true);
        Check.due("backoff(9.0, 1.0, 9.0)", x.backoff(9.0, 1.0, 9.0), true);
        Check.outcomes(x, 2, 1, 0, 0);
        Check.dueCall("waits 9 twice", x, 0);
        Check.due("clock", x.tell(7), 18);
    }
}
