/** The retry's boundary cases, a test for each sentence of the document that names one. */
public final class RetryBoundsTest {
    public static void main(String[] args) {
        attemptsThAttemptIsTheLast();
        oneAttemptIsNoRetry();
        firstAnswerEndsIt();
        emptySetTriesNothingAgain();
        fullSetTriesAllAgain();
        onlyItsOwnBitCounts();
        timesAsOftenAsAttemptsBefore();
        mostIfThatIsLess();
        roundedDown();
        noWaitingAtAll();
        longestWaitings();
        waitingWithoutATimerIsNeverCutOff();
        otherExceptionGoesOutFromEveryAttempt();
        itsOwnWaitingGoesOut();
        cutOffInsideIsTriedAgain();
        lastAttemptFailedIsToldOnce();
        Check.finish();
    }

    /** "and this was not the ATTEMPTS-th attempt": one failure fewer is got over, as many are not. */
    private static void attemptsThAttemptIsTheLast() {
        for (int attempts = 1; attempts <= 5; attempts++) {
            for (int failed = 0; failed <= attempts + 1; failed++) {
                GuardedCalls x = retrying(attempts, 16, 0.0, 1.0, 0.0);
                Check.outcomes(x, failed, 1, 0, 0);
                Check.outcomes(x, 1, 0, 0, 9);
                String what = failed + " failures, ATTEMPTS " + attempts;
                Check.dueCall(what, x, failed < attempts ? "9" : Check.IAE);
                Check.due(what + ": supplier's calls", x.tell(6), Math.min(failed + 1, attempts));
                Check.due(what + ": latest event", x.event(0), failed < attempts ? 51 : 32);
            }
        }
    }

    /** The same with ATTEMPTS 1, the least: nothing waits, and the one attempt is the last. */
    private static void oneAttemptIsNoRetry() {
        GuardedCalls x = retrying(1, 63, 50.0, 4.0, 100.0);
        Check.outcomes(x, 1, 2, 3, 0);
        Check.dueCall("one attempt", x, Check.UOE);
        Check.due("clock", x.tell(7), 3);
        Check.dueEvents("one attempt", x, "32 53");
    }

    /** An answer is not tried again, whatever the set. */
    private static void firstAnswerEndsIt() {
        GuardedCalls x = retrying(5, 63, 1.0, 1.0, 1.0);
        Check.dueCall("an answer of 0", x, 0);
        Check.due("supplier's calls", x.tell(6), 1);
        Check.dueEvents("an answer", x, "51");
    }

    /** "if an exception comes back that is in the set AGAIN": none is in the empty set, 0. */
    private static void emptySetTriesNothingAgain() {
        GuardedCalls x = retrying(5, 0, 1.0, 1.0, 1.0);
        for (int way = 1; way <= 2; way++) {
            Check.outcomes(x, 1, way, 0, 0);
            Check.dueCall("way " + way, x, way == 1 ? Check.IAE : Check.UOE);
            Check.due("supplier's calls", x.tell(6), way);
        }
        Check.dueEvents("no 31, no 32", x, "53 52");
    }

    /** The same: all are in the full set, 63. */
    private static void fullSetTriesAllAgain() {
        // In each attempt another exception: limiter, then both ways to fail, then an answer.
        GuardedCalls x = Check.with(2, 3);
        Check.due("limiter(10, 1, 0)", x.limiter(10, 1, 0), true);
        Check.due("retry(5, 63)", x.retry(5, 63), true);
        Check.due("backoff(10.0, 1.0, 10.0)", x.backoff(10.0, 1.0, 10.0), true);
        Check.dueCall("permit", x, 0);
        Check.outcomes(x, 1, 1, 0, 0);
        Check.outcomes(x, 1, 2, 0, 0);
        Check.outcomes(x, 1, 0, 0, 4);
        Check.dueCall("4 attempts", x, 4);
        Check.dueEvents("4 attempts", x, "51 31 53 31 52 31 21 51");
        Check.due("clock", x.tell(7), 30);
    }

    /** The same: with one bit the exception is tried again, with all the others it is not. */
    private static void onlyItsOwnBitCounts() {
        for (int way = 1; way <= 2; way++) {
            int bit = way == 1 ? 16 : 32;
            GuardedCalls x = retrying(2, bit, 0.0, 1.0, 0.0);
            Check.outcomes(x, 1, way, 0, 0);
            Check.dueCall("bit " + bit, x, 0);
            x = retrying(2, 63 - bit, 0.0, 1.0, 0.0);
            Check.outcomes(x, 1, way, 0, 0);
            Check.dueCall("all but bit " + bit, x, way == 1 ? Check.IAE : Check.UOE);
        }
    }

    /** "(TIMES as often as there were attempts before this one)": not once behind the first attempt. */
    private static void timesAsOftenAsAttemptsBefore() {
        dueWaits(1.0, 4.0, 100.0, 1, 4, 16, 64);
        dueWaits(16.0, 0.5, 100.0, 16, 8, 4, 2);
        dueWaits(7.0, 1.0, 100.0, 7, 7, 7, 7);
        // Each call begins anew.
        GuardedCalls x = retrying(3, 16, 1.0, 4.0, 100.0);
        for (int n = 1; n <= 3; n++) {
            Check.outcomes(x, 2, 1, 0, 0);
            Check.dueCall("call " + n, x, 0);
            Check.due("clock", x.tell(7), 5 * n);
        }
    }

    /** "or MOST, if that is less": just below the product, the product itself, just above it. */
    private static void mostIfThatIsLess() {
        dueWaits(6.0, 2.0, Math.nextDown(12.0), 6, 11, 11, 11);
        dueWaits(6.0, 2.0, 12.0, 6, 12, 12, 12);
        dueWaits(6.0, 2.0, Math.nextUp(12.0), 6, 12, 12, 12);
        dueWaits(6.0, 2.0, 13.0, 6, 12, 13, 13);
        dueWaits(8.0, 0.5, 4.0, 4, 4, 2, 1);
        dueWaits(8.0, 0.5, 3.99, 3, 3, 2, 1);
        // It is the product that grows on, not what was waited: 40, 20, 10, 5 cut at 15.
        dueWaits(40.0, 0.5, 15.0, 15, 15, 10, 5);
    }

    /** "rounded down": behind the product, not in it. */
    private static void roundedDown() {
        dueWaits(Math.nextDown(3.0), 1.0, 100.0, 2, 2, 2, 2);
        dueWaits(3.0, 1.0, 100.0, 3, 3, 3, 3);
        dueWaits(Math.nextUp(3.0), 1.0, 100.0, 3, 3, 3, 3);
        dueWaits(Math.nextDown(1.0), 1.0, 100.0, 0, 0, 0, 0);
        dueWaits(Double.MIN_VALUE, 4.0, 100.0, 0, 0, 0, 0);
        dueWaits(1.5, 1.5, 100.0, 1, 2, 3, 5);
        dueWaits(0.5, 4.0, 100.0, 0, 2, 8, 32);
        dueWaits(50.0, 4.0, Math.nextDown(100.0), 50, 99, 99, 99);
    }

    /** FIRST 0.0 or MOST 0.0: the waiting takes no tick, but is told. */
    private static void noWaitingAtAll() {
        for (double[] none : new double[][] {{0.0, 100.0}, {50.0, 0.0}, {0.0, 0.0}, {-0.0, -0.0}}) {
            GuardedCalls x = retrying(3, 16, none[0], 4.0, none[1]);
            Check.outcomes(x, 2, 1, 0, 0);
            Check.dueCall("no waiting", x, 0);
            Check.due("clock", x.tell(7), 0);
            Check.dueEvents("no waiting", x, "51 31 52 31 52");
        }
    }

    /** FIRST, TIMES and MOST at their most. */
    private static void longestWaitings() {
        dueWaits(50.0, 4.0, 100.0, 50, 100, 100, 100);
        dueWaits(50.0, 1.0, 100.0, 50, 50, 50, 50);
        dueWaits(50.0, 0.5, 100.0, 50, 25, 12, 6);
    }

    /** The longest run of one call without a timer: 5 latencies of 50 and all waitings. */
    private static void waitingWithoutATimerIsNeverCutOff() {
        GuardedCalls x = retrying(5, 16, 50.0, 4.0, 100.0);
        Check.due("timer(0)", x.timer(0), true);
        Check.outcomes(x, 5, 1, 50, 0);
        Check.dueCall("all fail", x, Check.IAE);
        Check.due("clock", x.tell(7), 5 * 50 + 350);
    }

    /** "Any other exception .. goes on out": at the first, a middle and the last attempt. */
    private static void otherExceptionGoesOutFromEveryAttempt() {
        for (int before = 0; before <= 4; before++) {
            GuardedCalls x = retrying(5, 16, 0.0, 1.0, 0.0);
            Check.outcomes(x, before, 1, 0, 0);
            Check.outcomes(x, 1, 2, 0, 0);
            Check.dueCall("another one behind " + before, x, Check.UOE);
            Check.due("supplier's calls", x.tell(6), before + 1);
            Check.due("events", x.event(0) + " " + x.event(1), before > 0 ? "53 31" : "53 -1");
        }
    }

    /** "and one that its own waiting throws, goes on out": also if the set has its bit, 8. */
    private static void itsOwnWaitingGoesOut() {
        for (int again : new int[] {16, 24, 63}) {
            for (int span = 4; span <= 6; span++) {
                GuardedCalls x = Check.with(3, 4);
                Check.due("retry", x.retry(5, again), true);
                Check.due("backoff(5.0, 1.0, 5.0)", x.backoff(5.0, 1.0, 5.0), true);
                Check.due("timer", x.timer(span), true);
                Check.outcomes(x, 1, 1, 0, 0);
                boolean cut = span < 5;
                Check.dueCall("a wait of 5 in " + span, x, cut ? Check.AE : "0");
                Check.dueEvents("a wait of 5 in " + span, x, cut ? "41 31 52" : "51 31 52");
                Check.due("supplier's calls", x.tell(6), cut ? 1 : 2);
            }
        }
    }

    /** A latency that is cut off comes back from inside, and is tried again with the bit 8, and only with it. */
    private static void cutOffInsideIsTriedAgain() {
        for (int again : new int[] {8, 55}) {
            GuardedCalls x = Check.with(3, 4);
            Check.due("retry", x.retry(2, again), true);
            Check.due("backoff(0.0, 1.0, 0.0)", x.backoff(0.0, 1.0, 0.0), true);
            Check.outcomes(x, 1, 0, 50, 1);
            Check.outcomes(x, 1, 0, 0, 2);
            Check.dueCall("AGAIN " + again, x, again == 8 ? "2" : Check.AE);
            Check.dueEvents("AGAIN " + again, x, again == 8 ? "51 31 41" : "41");
            Check.due("clock", x.tell(7), 10);
        }
    }

    /** "32 the last attempt failed with an exception of AGAIN": once, behind all others, and not for other exceptions. */
    private static void lastAttemptFailedIsToldOnce() {
        GuardedCalls x = retrying(2, 16, 0.0, 1.0, 0.0);
        Check.outcomes(x, 2, 1, 0, 0);
        Check.outcomes(x, 1, 1, 0, 0);
        Check.outcomes(x, 1, 2, 0, 0);
        Check.dueCall("both of the set", x, Check.IAE);
        Check.dueEvents("both of the set", x, "32 52 31 52");
        Check.dueCall("the last one is another", x, Check.UOE);
        Check.dueEvents("the last one is another", x, "53 31 52 32 52 31 52");
    }

    /** The ticks of each waiting, one behind the other. */
    private static void dueWaits(double first, double times, double most, int... waits) {
        String what = "backoff(" + first + ", " + times + ", " + most + ")";
        int sum = 0;
        for (int n = 1; n <= waits.length; n++) {
            GuardedCalls x = retrying(5, 16, first, times, most);
            Check.outcomes(x, n, 1, 0, 0);
            Check.dueCall(what, x, 0);
            sum += waits[n - 1];
            Check.due(what + " after " + n + " waits", x.tell(7), sum);
        }
    }

    private static GuardedCalls retrying(int attempts, int again, double first, double times, double most) {
        GuardedCalls x = Check.with(3);
        Check.due("retry", x.retry(attempts, again), true);
        Check.due("backoff", x.backoff(first, times, most), true);
        return x;
    }
}
