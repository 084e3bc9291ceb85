/** Promises 7 and 8, and what the retry does with a call. */
public final class RetryTest {
    private static final String[] NAMES = {Check.ISE, Check.IOOBE, Check.NSEE, Check.AE, Check.IAE, Check.UOE};

    public static void main(String[] args) {
        retryRefusesWrongInputs();
        backoffRefusesWrongInputs();
        refusedChangesNothing();
        attemptsAreCounted();
        everySetHolds();
        otherExceptionsGoOut();
        waitsAreRoundedDown();
        edgesOfBackoff();
        multipliedFromTheLeft();
        itsOwnWaitingGoesOut();
        deadlineInsideIsRetried();
        deadlineReachedIsNotBehindIt();
        Check.finish();
    }

    private static void retryRefusesWrongInputs() {
        GuardedCalls x = new GuardedCalls();
        int[][] wrong = {{0, 0}, {-1, 16}, {6, 16}, {3, -1}, {3, 64}, {Integer.MIN_VALUE, 0},
            {Integer.MAX_VALUE, 0}, {1, Integer.MIN_VALUE}, {1, Integer.MAX_VALUE}};
        for (int[] a : wrong) {
            Check.due("retry" + java.util.Arrays.toString(a), x.retry(a[0], a[1]), false);
        }
        Check.due("retry(1, 0)", x.retry(1, 0), true);
        Check.due("retry(5, 63)", x.retry(5, 63), true);
    }

    private static void backoffRefusesWrongInputs() {
        GuardedCalls x = new GuardedCalls();
        double[] never = {Double.NaN, Double.POSITIVE_INFINITY, Double.NEGATIVE_INFINITY, -Double.MIN_VALUE,
            Math.nextUp(100.0), -1.0};
        for (double v : never) {
            Check.due("backoff(" + v + ", 1.0, 1.0)", x.backoff(v, 1.0, 1.0), false);
            Check.due("backoff(1.0, " + v + ", 1.0)", x.backoff(1.0, v, 1.0), false);
            Check.due("backoff(1.0, 1.0, " + v + ")", x.backoff(1.0, 1.0, v), false);
        }
        Check.due("FIRST too large", x.backoff(Math.nextUp(50.0), 1.0, 1.0), false);
        Check.due("TIMES too small", x.backoff(1.0, Math.nextDown(0.5), 1.0), false);
        Check.due("TIMES too large", x.backoff(1.0, Math.nextUp(4.0), 1.0), false);
        Check.due("TIMES 0.0", x.backoff(1.0, 0.0, 1.0), false);
        Check.due("backoff(0.0, 0.5, 0.0)", x.backoff(0.0, 0.5, 0.0), true);
        Check.due("backoff(50.0, 4.0, 100.0)", x.backoff(50.0, 4.0, 100.0), true);
    }

    private static void refusedChangesNothing() {
        GuardedCalls x = Check.with(3);
        Check.due("retry(5, 64)", x.retry(5, 64), false);
        Check.due("retry(6, 63)", x.retry(6, 63), false);
        Check.due("backoff(9.0, 4.0, 101.0)", x.backoff(9.0, 4.0, 101.0), false);
        Check.due("backoff(9.0, 5.0, 100.0)", x.backoff(9.0, 5.0, 100.0), false);
        Check.due("backoff(51.0, 4.0, 100.0)", x.backoff(51.0, 4.0, 100.0), false);
        Check.outcomes(x, 3, 1, 0, 0);
        Check.outcomes(x, 1, 2, 0, 0);
        Check.dueCall("3 attempts", x, Check.IAE);
        Check.due("waited 1 and 2", x.tell(7), 3);
        Check.dueCall("AGAIN is 16", x, Check.UOE);
        Check.due("supplier's calls", x.tell(6), 4);
    }

    private static void attemptsAreCounted() {
        for (int attempts = 1; attempts <= 5; attempts++) {
            GuardedCalls x = Check.with(3);
            Check.due("retry", x.retry(attempts, 16), true);
            Check.outcomes(x, attempts, 1, 0, 0);
            Check.dueCall("all " + attempts + " fail", x, Check.IAE);
            Check.due("supplier's calls", x.tell(6), attempts);
            Check.due("the last one failed", x.event(0) + " " + x.event(1), "32 52");
            Check.due("before it", x.event(2), attempts > 1 ? 31 : -1);

            x = Check.with(3);
            Check.due("retry", x.retry(attempts, 16), true);
            Check.outcomes(x, attempts - 1, 1, 0, 0);
            Check.outcomes(x, 1, 0, 0, 77);
            Check.dueCall("the last one answers", x, 77);
            Check.due("latest event", x.event(0), 51);
        }
    }

    /** Each exception alone comes from inside; it is tried again just if its bit is in AGAIN. */
    private static void everySetHolds() {
        for (int kind = 0; kind < 6; kind++) {
            for (int again = 0; again < 64; again++) {
                GuardedCalls x = throwing(kind);
                Check.due("retry", x.retry(2, again), true);
                Check.due("lay(3)", x.lay(3), 2);
                boolean repeats = (again >> kind & 1) == 1;
                Check.dueCall("kind " + kind + ", AGAIN " + again, x, NAMES[kind]);
                Check.due("kind " + kind + ", AGAIN " + again + ": retried",
                        (" " + Check.events(x) + " ").contains(" 31 "), repeats);
                Check.due("kind " + kind + ", AGAIN " + again + ": last event 32", x.event(0) == 32, repeats);
            }
        }
    }

    /** An object with one policy, whose calls throw an exception of that kind, twice at least. */
    private static GuardedCalls throwing(int kind) {
        GuardedCalls x = Check.with(new int[] {0, 1, 2, 4, 1, 1}[kind]);
        if (kind == 0) {
            Check.due("breaker", x.breaker(1, 1, 100, 1), true);
            Check.outcomes(x, 1, 1, 0, 0);
            Check.dueCall("opens", x, Check.IAE);
        } else if (kind == 1) {
            Check.due("bulkhead", x.bulkhead(0), true);
        } else if (kind == 2) {
            Check.due("limiter", x.limiter(50, 1, 0), true);
            Check.dueCall("permit", x, 0);
        } else if (kind == 3) {
            Check.due("timer", x.timer(0), true);
            Check.outcomes(x, 2, 0, 1, 0);
        } else {
            Check.outcomes(x, 2, kind - 3, 0, 0);
        }
        return x;
    }

    private static void otherExceptionsGoOut() {
        GuardedCalls x = Check.with(3);
        Check.outcomes(x, 1, 1, 0, 0);
        Check.outcomes(x, 1, 2, 0, 0);
        Check.dueCall("the second attempt fails otherwise", x, Check.UOE);
        Check.dueEvents("otherwise", x, "53 31 52");

        x = Check.with(3);
        Check.outcomes(x, 2, 1, 0, 0);
        Check.outcomes(x, 1, 2, 0, 0);
        Check.dueCall("the last attempt fails otherwise", x, Check.UOE);
        Check.dueEvents("no 32", x, "53 31 52 31 52");
    }

    private static void waitsAreRoundedDown() {
        dueWaits(1.5, 2.5, 7.0, 1, 3, 7, 7);
        dueWaits(1.0, 2.0, 8.0, 1, 2, 4, 8);
        dueWaits(10.0, 0.5, 100.0, 10, 5, 2, 1);
        dueWaits(0.999, 1.0, 100.0, 0, 0, 0, 0);
        dueWaits(3.0, 1.5, 6.74, 3, 4, 6, 6);
        dueWaits(3.0, 1.5, 6.76, 3, 4, 6, 6);
        dueWaits(2.0, 1.0, 1.99, 1, 1, 1, 1);
    }

    private static void edgesOfBackoff() {
        dueWaits(0.0, 4.0, 100.0, 0, 0, 0, 0);
        dueWaits(-0.0, 4.0, 100.0, 0, 0, 0, 0);
        dueWaits(50.0, 4.0, 0.0, 0, 0, 0, 0);
        dueWaits(50.0, 4.0, 100.0, 50, 100, 100, 100);
        dueWaits(50.0, 0.5, 100.0, 50, 25, 12, 6);
    }

    /** In another order the products are 27.0, 27.0 and 28.99.. instead of 26.99.., 26.99.. and 29.0. */
    private static void multipliedFromTheLeft() {
        dueWaits(0.512, 3.75, 100.0, 0, 1, 7, 26);
        dueWaits(1.92, 3.75, 100.0, 1, 7, 26, 100);
        dueWaits(4.64, 2.5, 100.0, 4, 11, 29, 72);
    }

    private static void dueWaits(double first, double times, double most, int... waits) {
        String what = "backoff(" + first + ", " + times + ", " + most + ")";
        int sum = 0;
        for (int n = 1; n <= waits.length; n++) {
            GuardedCalls x = Check.with(3);
            Check.due(what, x.backoff(first, times, most), true);
            Check.due("retry", x.retry(n + 1, 48), true);
            Check.outcomes(x, n, 2, 0, 0);
            Check.dueCall(what, x, 0);
            sum += waits[n - 1];
            Check.due(what + " after " + n + " waits", x.tell(7), sum);
        }
    }

    private static void itsOwnWaitingGoesOut() {
        GuardedCalls x = Check.with(3, 4);
        Check.due("retry(5, 63)", x.retry(5, 63), true);
        Check.due("backoff(6.0, 1.0, 100.0)", x.backoff(6.0, 1.0, 100.0), true);
        Check.outcomes(x, 3, 1, 0, 0);
        Check.dueCall("the second wait is cut off", x, Check.AE);
        Check.due("clock", x.tell(7), 10);
        Check.due("supplier's calls", x.tell(6), 2);
        Check.dueEvents("cut off", x, "41 31 52 31 52");
    }

    private static void deadlineInsideIsRetried() {
        GuardedCalls x = Check.with(4, 3);
        Check.due("retry(3, 8)", x.retry(3, 8), true);
        Check.outcomes(x, 1, 0, 11, 1);
        Check.outcomes(x, 1, 0, 50, 2);
        Check.outcomes(x, 1, 0, 10, 3);
        Check.dueCall("each attempt has its own deadline", x, 3);
        Check.due("clock: 10 + 1 + 10 + 2 + 10", x.tell(7), 33);
        Check.dueEvents("retried", x, "51 31 41 31 41");
    }

    /** A wait of no ticks at the deadline does not go behind it, nor does an outcome without latency. */
    private static void deadlineReachedIsNotBehindIt() {
        GuardedCalls x = Check.with(3, 4);
        Check.due("retry(3, 8)", x.retry(3, 8), true);
        Check.due("backoff(0.5, 1.0, 1.0)", x.backoff(0.5, 1.0, 1.0), true);
        Check.outcomes(x, 1, 0, 11, 1);
        Check.outcomes(x, 1, 0, 1, 2);
        Check.outcomes(x, 1, 0, 0, 3);
        Check.dueCall("at the deadline", x, 3);
        Check.due("clock", x.tell(7), 10);
        Check.dueEvents("at the deadline", x, "51 31 41 31 41");
    }
}
