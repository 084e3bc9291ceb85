import java.util.Arrays;

/**
 * Promises 2 to 4, 6 to 9: every bound of every setting, crossed with the bounds of the others, and
 * that a setting at its bound is really in force.
 */
public final class SettingsBoundsTest {
    private static final int MIN = Integer.MIN_VALUE;
    private static final int MAX = Integer.MAX_VALUE;
    private static final double HUGE = Double.POSITIVE_INFINITY;

    public static void main(String[] args) {
        sizeAndLeast();
        waitAndTrials();
        sizeAtItsBounds();
        waitAtItsBounds();
        failuresAndSluggish();
        slow();
        capacity();
        period();
        limit();
        patience();
        attempts();
        again();
        firstOfBackoff();
        timesOfBackoff();
        mostOfBackoff();
        span();
        Check.finish();
    }

    /** "SIZE and LEAST (1 .. 8, LEAST at most SIZE)": every pair about the bounds. */
    private static void sizeAndLeast() {
        for (int size = -1; size <= 10; size++) {
            for (int least = -1; least <= 10; least++) {
                boolean fine = size >= 1 && size <= 8 && least >= 1 && least <= 8 && least <= size;
                dueBreaker(size, least, 10, 2, fine);
            }
        }
        for (int far : new int[] {MIN, MIN + 1, MIN + 8, -8, 256 + 4, 65536 + 4, MAX - 1, MAX}) {
            dueBreaker(far, 1, 10, 2, false);
            dueBreaker(8, far, 10, 2, false);
            dueBreaker(far, far, 10, 2, false);
        }
    }

    /** "WAIT (0 .. 100), TRIALS (1 .. 4)". */
    private static void waitAndTrials() {
        for (int wait : new int[] {MIN, -100, -1, 0, 1, 99, 100, 101, 256, MAX}) {
            for (int trials : new int[] {MIN, -4, -1, 0, 1, 2, 3, 4, 5, 8, 260, MAX}) {
                boolean fine = wait >= 0 && wait <= 100 && trials >= 1 && trials <= 4;
                dueBreaker(1, 1, wait, trials, fine);
                dueBreaker(8, 8, wait, trials, fine);
            }
        }
    }

    private static void dueBreaker(int size, int least, int wait, int trials, boolean want) {
        Check.due("breaker(" + size + ", " + least + ", " + wait + ", " + trials + ")",
                new GuardedCalls().breaker(size, least, wait, trials), want);
    }

    /** SIZE 1 and SIZE 8 are what the window then keeps. */
    private static void sizeAtItsBounds() {
        for (int size : new int[] {1, 8}) {
            GuardedCalls x = Check.with(0);
            Check.due("breaker", x.breaker(size, size, 0, 1), true);
            for (int n = 1; n <= 10; n++) {
                Check.dueCall("call " + n, x, 0);
                Check.due("calls in a window of " + size, x.tell(1), Math.min(n, size));
            }
        }
    }

    /** WAIT 0 never refuses, WAIT 100 refuses until 100 ticks are gone. */
    private static void waitAtItsBounds() {
        GuardedCalls x = openedWithWait(0);
        Check.dueCall("WAIT 0", x, 0);
        x = openedWithWait(100);
        Check.due("pass(99)", x.pass(99), true);
        Check.dueCall("WAIT 100, 99 gone", x, Check.ISE);
        Check.due("pass(1)", x.pass(1), true);
        Check.dueCall("WAIT 100, 100 gone", x, 0);
    }

    private static GuardedCalls openedWithWait(int wait) {
        GuardedCalls x = Check.with(0);
        Check.due("breaker", x.breaker(1, 1, wait, 1), true);
        Check.outcomes(x, 1, 1, 0, 0);
        Check.dueCall("opens", x, Check.IAE);
        return x;
    }

    /** "FAILURES and SLUGGISH (above 0.0, at most 100.0)". */
    private static void failuresAndSluggish() {
        double[] wrong = {Double.NaN, -HUGE, -100.0, -Double.MIN_VALUE, -0.0, 0.0, Math.nextUp(100.0), 100.125, HUGE};
        double[] right = {Double.MIN_VALUE, Double.MIN_NORMAL, 0.125, 50.0, Math.nextDown(100.0), 100.0};
        for (double good : right) {
            for (double bad : wrong) {
                dueTrips(good, bad, 5, false);
                dueTrips(bad, good, 5, false);
            }
            for (double other : right) {
                dueTrips(good, other, 5, true);
            }
        }
        dueTrips(Double.NaN, Double.NaN, 5, false);
    }

    /** "SLOW (0 .. 100)". */
    private static void slow() {
        for (int ticks : new int[] {MIN, -100, -1, 0, 1, 99, 100, 101, 256, MAX}) {
            dueTrips(100.0, 100.0, ticks, ticks >= 0 && ticks <= 100);
            dueTrips(Double.MIN_VALUE, Double.MIN_VALUE, ticks, ticks >= 0 && ticks <= 100);
        }
    }

    private static void dueTrips(double failures, double sluggish, int slow, boolean want) {
        Check.due("trips(" + failures + ", " + sluggish + ", " + slow + ")",
                new GuardedCalls().trips(failures, sluggish, slow), want);
    }

    /** "CAPACITY (0 .. 5) of the bulkhead." */
    private static void capacity() {
        for (int capacity : new int[] {MIN, -5, -1, 0, 1, 4, 5, 6, 9, 256, MAX}) {
            Check.due("bulkhead(" + capacity + ")", new GuardedCalls().bulkhead(capacity),
                    capacity >= 0 && capacity <= 5);
        }
    }

    /** "PERIOD (1 .. 50)": at the bounds the next cycle is 1 or 50 ticks away. */
    private static void period() {
        for (int period : new int[] {MIN, -50, -1, 0, 1, 2, 49, 50, 51, 257, MAX}) {
            GuardedCalls x = Check.with(2);
            boolean fine = period >= 1 && period <= 50;
            Check.due("limiter(" + period + ", 1, 100)", x.limiter(period, 1, 100), fine);
            if (fine) {
                Check.dueCall("the permit", x, 0);
                Check.dueCall("waits", x, 0);
                Check.due("PERIOD " + period, x.tell(7), period);
            }
        }
    }

    /** "LIMIT (1 .. 5)": so many calls go in, and no more. */
    private static void limit() {
        for (int limit : new int[] {MIN, -5, -1, 0, 1, 2, 3, 4, 5, 6, 257, MAX}) {
            GuardedCalls x = Check.with(2);
            boolean fine = limit >= 1 && limit <= 5;
            Check.due("limiter(50, " + limit + ", 0)", x.limiter(50, limit, 0), fine);
            for (int n = 1; fine && n <= limit + 1; n++) {
                Check.dueCall("LIMIT " + limit + ", call " + n, x, n <= limit ? "0" : Check.NSEE);
            }
        }
    }

    /** "PATIENCE (0 .. 100) of the limiter". */
    private static void patience() {
        for (int patience : new int[] {MIN, -100, -1, 0, 1, 99, 100, 101, 256, MAX}) {
            Check.due("limiter(1, 1, " + patience + ")", new GuardedCalls().limiter(1, 1, patience),
                    patience >= 0 && patience <= 100);
            Check.due("limiter(50, 5, " + patience + ")", new GuardedCalls().limiter(50, 5, patience),
                    patience >= 0 && patience <= 100);
        }
    }

    /** "ATTEMPTS (1 .. 5)". */
    private static void attempts() {
        for (int attempts : new int[] {MIN, -5, -1, 0, 1, 2, 4, 5, 6, 257, MAX}) {
            for (int again : new int[] {0, 63}) {
                Check.due("retry(" + attempts + ", " + again + ")", new GuardedCalls().retry(attempts, again),
                        attempts >= 1 && attempts <= 5);
            }
        }
    }

    /** "AGAIN (0 .. 63) of the retry." */
    private static void again() {
        for (int again : new int[] {MIN, -64, -63, -1, 0, 1, 62, 63, 64, 65, 127, MAX}) {
            for (int attempts : new int[] {1, 5}) {
                Check.due("retry(" + attempts + ", " + again + ")", new GuardedCalls().retry(attempts, again),
                        again >= 0 && again <= 63);
            }
        }
    }

    /** "FIRST (0.0 .. 50.0)". */
    private static void firstOfBackoff() {
        double[] right = {0.0, -0.0, Double.MIN_VALUE, 1.0, Math.nextDown(50.0), 50.0};
        double[] wrong = {-Double.MIN_VALUE, -1.0, Math.nextUp(50.0), 51.0, 100.0, HUGE, -HUGE, Double.NaN};
        dueBackoff(right, 0, true);
        dueBackoff(wrong, 0, false);
    }

    /** "TIMES (0.5 .. 4.0)". */
    private static void timesOfBackoff() {
        double[] right = {0.5, Math.nextUp(0.5), 1.0, Math.nextDown(4.0), 4.0};
        double[] wrong = {Math.nextDown(0.5), 0.0, -0.0, -0.5, -1.0, Math.nextUp(4.0), 5.0, HUGE, -HUGE, Double.NaN};
        dueBackoff(right, 1, true);
        dueBackoff(wrong, 1, false);
    }

    /** "MOST (0.0 .. 100.0) of the retry." */
    private static void mostOfBackoff() {
        double[] right = {0.0, -0.0, Double.MIN_VALUE, 50.5, Math.nextDown(100.0), 100.0};
        double[] wrong = {-Double.MIN_VALUE, -1.0, Math.nextUp(100.0), 101.0, HUGE, -HUGE, Double.NaN};
        dueBackoff(right, 2, true);
        dueBackoff(wrong, 2, false);
    }

    /** Puts each value in one place, the other two being at their least and at their most. */
    private static void dueBackoff(double[] values, int place, boolean want) {
        for (double[] others : new double[][] {{0.0, 0.5, 0.0}, {50.0, 4.0, 100.0}}) {
            for (double value : values) {
                double[] a = others.clone();
                a[place] = value;
                Check.due("backoff" + Arrays.toString(a), new GuardedCalls().backoff(a[0], a[1], a[2]), want);
            }
        }
    }

    /** "SPAN (0 .. 100) of the timer." */
    private static void span() {
        for (int span : new int[] {MIN, -100, -1, 0, 1, 99, 100, 101, 256, MAX}) {
            Check.due("timer(" + span + ")", new GuardedCalls().timer(span), span >= 0 && span <= 100);
        }
    }
}
