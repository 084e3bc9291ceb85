/** The timer's boundary cases, a test for each sentence of the document that names one. */
public final class TimerBoundsTest {
    public static void main(String[] args) {
        latencyUpToTheDeadline();
        limiterWaitsUpToTheDeadline();
        retryWaitsUpToTheDeadline();
        noSpanStillLetsIn();
        wholeCallHasOneDeadline();
        clockBecomesTheDeadline();
        cutOffOutcomeIsTaken();
        cutOffWaitingTakesNoOutcome();
        refusalsAtTheDeadlineAreTheirOwn();
        eachCallHasItsOwnDeadline();
        outsideTheTimerNothingIsCutOff();
        newSpanIsForTheNextCall();
        Check.finish();
    }

    /** "where the clock would come to be more than the deadline by a latency": each latency about each SPAN. */
    private static void latencyUpToTheDeadline() {
        for (int span = 0; span <= 50; span++) {
            for (int latency = Math.max(0, span - 1); latency <= Math.min(50, span + 1); latency++) {
                for (int way = 0; way <= 2; way++) {
                    GuardedCalls x = timed(9, span, 4);
                    Check.outcomes(x, 1, way, latency, 5);
                    String what = latency + " of " + span;
                    String uncut = new String[] {"5", Check.IAE, Check.UOE}[way];
                    Check.dueCall(what, x, latency > span ? Check.AE : uncut);
                    Check.dueEvents(what, x, latency > span ? "41" : String.valueOf(51 + way));
                    Check.due(what + ": clock", x.tell(7), 9 + Math.min(latency, span));
                }
            }
        }
    }

    /** "or by waiting": the limiter's, each one about SPAN. */
    private static void limiterWaitsUpToTheDeadline() {
        for (int span : new int[] {0, 1, 2, 24, 49, 50}) {
            for (int ticks = Math.max(1, span - 1); ticks <= Math.min(50, span + 1); ticks++) {
                GuardedCalls x = timed(50 - ticks, span, 2, 4);
                Check.due("limiter(50, 1, 100)", x.limiter(50, 1, 100), true);
                Check.dueCall("the permit", x, 0);
                String what = "waiting " + ticks + " of " + span;
                Check.dueCall(what, x, ticks > span ? Check.AE : "0");
                Check.dueEvents(what, x, ticks > span ? "41 22 51" : "51 22 51");
                Check.due(what + ": clock", x.tell(7), 50 - ticks + Math.min(ticks, span));
            }
        }
    }

    /** "or by waiting": the retry's, each one about SPAN. */
    private static void retryWaitsUpToTheDeadline() {
        for (int span : new int[] {0, 1, 2, 49, 50}) {
            for (int ticks = Math.max(0, span - 1); ticks <= Math.min(50, span + 1); ticks++) {
                GuardedCalls x = timed(9, span, 3, 4);
                Check.due("backoff", x.backoff(ticks, 1.0, 100.0), true);
                Check.outcomes(x, 1, 1, 0, 0);
                String what = "waiting " + ticks + " of " + span;
                Check.dueCall(what, x, ticks > span ? Check.AE : "0");
                Check.dueEvents(what, x, ticks > span ? "41 31 52" : "51 31 52");
                Check.due(what + ": clock", x.tell(7), 9 + Math.min(ticks, span));
            }
        }
        // Two waitings of 50 end at SPAN 100, the most, and one tick of latency more is too much.
        for (int latency = 0; latency <= 1; latency++) {
            GuardedCalls x = timed(9, 100, 3, 4);
            Check.due("backoff(50.0, 1.0, 100.0)", x.backoff(50.0, 1.0, 100.0), true);
            Check.outcomes(x, 2, 1, 0, 0);
            Check.outcomes(x, 1, 0, latency, 6);
            Check.dueCall("100 + " + latency, x, latency > 0 ? Check.AE : "6");
            Check.due("clock", x.tell(7), 109);
        }
    }

    /** "the call goes in with a DEADLINE, the clock now + SPAN": SPAN 0 cuts off just what takes time. */
    private static void noSpanStillLetsIn() {
        GuardedCalls x = timed(9, 0, 4);
        Check.dueCall("without an outcome", x, 0);
        Check.outcomes(x, 1, 0, 0, 5);
        Check.outcomes(x, 1, 2, 0, 5);
        Check.outcomes(x, 1, 0, 1, 5);
        Check.dueCall("no latency", x, 5);
        Check.dueCall("fails at once", x, Check.UOE);
        Check.dueCall("one tick", x, Check.AE);
        Check.due("clock", x.tell(7), 9);
    }

    /** The same: SPAN 100, the most, for all that is inside together. */
    private static void wholeCallHasOneDeadline() {
        for (int last = 24; last <= 26; last++) {
            GuardedCalls x = timed(0, 100, 3, 4);
            Check.due("backoff(25.0, 1.0, 25.0)", x.backoff(25.0, 1.0, 25.0), true);
            Check.outcomes(x, 1, 1, 50, 0);
            Check.outcomes(x, 1, 0, last, 8);
            Check.dueCall("50 + 25 + " + last, x, last > 25 ? Check.AE : "8");
            Check.due("clock", x.tell(7), 75 + Math.min(last, 25));
        }
    }

    /** "it becomes the deadline, and ArithmeticException is thrown there": from wherever the clock was. */
    private static void clockBecomesTheDeadline() {
        for (int first = 0; first <= 10; first++) {
            GuardedCalls x = timed(3, 10, 3, 4);
            Check.due("backoff(0.0, 1.0, 0.0)", x.backoff(0.0, 1.0, 0.0), true);
            Check.outcomes(x, 1, 1, first, 0);
            Check.outcomes(x, 1, 0, 50, 0);
            Check.dueCall("cut off behind " + first, x, Check.AE);
            Check.due("clock", x.tell(7), 13);
            Check.dueEvents("cut off behind " + first, x, "41 31 52");
        }
    }

    /** "(an outcome that is cut off like this is taken all the same)": of each way, and the supplier was called. */
    private static void cutOffOutcomeIsTaken() {
        for (int way = 0; way <= 2; way++) {
            GuardedCalls x = timed(0, 1, 4);
            Check.outcomes(x, 1, way, 2, 5);
            Check.outcomes(x, 1, 0, 1, 6);
            Check.dueCall("cut off", x, Check.AE);
            Check.due("tells", Check.tells(x), "0 0 0 0 2 1 1 1");
            Check.dueCall("the next one", x, 6);
            Check.due("tells", Check.tells(x), "0 0 0 0 2 0 2 2");
        }
    }

    /** A waiting that is cut off comes before the supplier: no outcome is taken, and no permit. */
    private static void cutOffWaitingTakesNoOutcome() {
        GuardedCalls x = timed(0, 4, 2, 4);
        Check.due("limiter(10, 1, 100)", x.limiter(10, 1, 100), true);
        Check.dueCall("the permit", x, 0);
        Check.outcomes(x, 1, 0, 0, 7);
        Check.dueCall("cut off at 4", x, Check.AE);
        Check.dueCall("cut off at 8", x, Check.AE);
        Check.due("tells", Check.tells(x), "0 0 0 0 0 1 1 8");
        Check.dueCall("waits from 8 to 10", x, 7);
        Check.due("tells", Check.tells(x), "0 0 0 0 0 0 2 10");
    }

    /** What refuses without waiting throws its own exception, also at the deadline. */
    private static void refusalsAtTheDeadlineAreTheirOwn() {
        GuardedCalls x = timed(9, 0, 1, 4);
        Check.due("bulkhead(0)", x.bulkhead(0), true);
        Check.dueCall("bulkhead", x, Check.IOOBE);
        x = timed(0, 0, 2, 4);
        Check.due("limiter(10, 1, 9)", x.limiter(10, 1, 9), true);
        Check.dueCall("the permit", x, 0);
        // The waiting of 10 would be cut off, but PATIENCE is looked at first.
        Check.dueCall("limiter", x, Check.NSEE);
        x = timed(0, 0, 0, 4);
        Check.due("breaker(1, 1, 1, 1)", x.breaker(1, 1, 1, 1), true);
        Check.outcomes(x, 1, 1, 0, 0);
        Check.dueCall("opens", x, Check.IAE);
        Check.dueCall("breaker", x, Check.ISE);
    }

    /** "the clock now + SPAN": the now of each call, and of each attempt of a retry outside. */
    private static void eachCallHasItsOwnDeadline() {
        GuardedCalls x = timed(0, 5, 4);
        Check.outcomes(x, 20, 0, 5, 1);
        for (int n = 1; n <= 20; n++) {
            Check.dueCall("call " + n, x, 1);
            Check.due("clock", x.tell(7), 5 * n);
        }
        x = timed(0, 5, 4, 3);
        Check.due("retry(4, 24)", x.retry(4, 24), true);
        Check.outcomes(x, 1, 0, 6, 1);
        Check.outcomes(x, 1, 1, 5, 0);
        Check.outcomes(x, 1, 0, 6, 1);
        Check.outcomes(x, 1, 0, 5, 7);
        Check.dueCall("the fourth attempt", x, 7);
        Check.due("clock: 4 times 5, and 1 + 2 + 4", x.tell(7), 27);
    }

    /** "the call goes in with a DEADLINE": what lies outside the timer waits as long as it likes. */
    private static void outsideTheTimerNothingIsCutOff() {
        GuardedCalls x = timed(0, 0, 4, 2);
        Check.due("limiter(50, 1, 100)", x.limiter(50, 1, 100), true);
        Check.dueCall("the permit", x, 0);
        Check.dueCall("waits 50", x, 0);
        Check.due("clock", x.tell(7), 50);
        x = timed(0, 0, 4, 3);
        Check.due("backoff(50.0, 4.0, 100.0)", x.backoff(50.0, 4.0, 100.0), true);
        Check.outcomes(x, 2, 1, 0, 0);
        Check.dueCall("waits 150", x, 0);
        Check.due("clock", x.tell(7), 150);
        // Without a timer in the stack there is no deadline, not even that of an earlier call.
        x = timed(0, 1, 4);
        Check.dueCall("with a deadline", x, 0);
        Check.due("strip()", x.strip(), 1);
        Check.outcomes(x, 1, 0, 50, 3);
        Check.dueCall("without", x, 3);
        Check.due("pass(100)", x.pass(100), true);
        Check.due("clock", x.tell(7), 150);
    }

    /** SPAN holds from the next call on. */
    private static void newSpanIsForTheNextCall() {
        GuardedCalls x = timed(0, 3, 4);
        for (int span : new int[] {3, 0, 50, 2}) {
            Check.due("timer", x.timer(span), true);
            Check.outcomes(x, 1, 0, 3, 4);
            Check.dueCall("3 of " + span, x, span < 3 ? Check.AE : "4");
        }
        Check.due("clock: 3 + 0 + 3 + 2", x.tell(7), 8);
    }

    /** Policies laid on at that tick, the first one innermost, and SPAN. */
    private static GuardedCalls timed(int tick, int span, int... kinds) {
        GuardedCalls x = Check.with(kinds);
        Check.pass(x, tick);
        Check.due("timer", x.timer(span), true);
        return x;
    }
}
