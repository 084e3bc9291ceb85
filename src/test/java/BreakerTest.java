/** Promises 2, 3, 15 and 16, and what the breaker does with a call. */
public final class BreakerTest {
    public static void main(String[] args) {
        breakerRefusesWrongInputs();
        breakerTakesTheEdges();
        breakerClosesAndEmpties();
        refusedBreakerChangesNothing();
        tripsRefusesWrongInputs();
        tripsTakesTheEdges();
        tripsKeepsTheWindow();
        refusedTripsChangesNothing();
        windowKeepsTheLastCalls();
        ratesAreOfAllInTheWindow();
        emptyWindowForgetsAll();
        leastCallsAreNeeded();
        waitIsCountedFromTheOpening();
        trialsDecide();
        trialsDoNotNeedLeast();
        trialsBehindSizeAreStuck();
        slownessIsTheWholeCallInside();
        breakerSeesInnerRefusals();
        breakerKeepsItsStateOffTheStack();
        Check.finish();
    }

    private static void breakerRefusesWrongInputs() {
        GuardedCalls x = new GuardedCalls();
        int[][] wrong = {
            {0, 1, 0, 1}, {-1, -1, 0, 1}, {9, 1, 0, 1}, {4, 0, 0, 1}, {4, -1, 0, 1}, {4, 5, 0, 1},
            {8, 9, 0, 1}, {4, 2, -1, 1}, {4, 2, 101, 1}, {4, 2, 0, 0}, {4, 2, 0, -1}, {4, 2, 0, 5},
            {Integer.MAX_VALUE, 1, 0, 1}, {Integer.MIN_VALUE, 1, 0, 1}, {4, Integer.MIN_VALUE, 0, 1},
            {4, 2, Integer.MAX_VALUE, 1}, {4, 2, 0, Integer.MAX_VALUE}, {4, 2, 0, Integer.MIN_VALUE}};
        for (int[] a : wrong) {
            Check.due("breaker" + java.util.Arrays.toString(a), x.breaker(a[0], a[1], a[2], a[3]), false);
        }
    }

    private static void breakerTakesTheEdges() {
        GuardedCalls x = new GuardedCalls();
        int[][] right = {{1, 1, 0, 1}, {8, 8, 100, 4}, {8, 1, 0, 4}, {3, 3, 50, 2}};
        for (int[] a : right) {
            Check.due("breaker" + java.util.Arrays.toString(a), x.breaker(a[0], a[1], a[2], a[3]), true);
        }
    }

    private static void breakerClosesAndEmpties() {
        GuardedCalls x = opened();
        Check.due("breaker(4, 2, 10, 2)", x.breaker(4, 2, 10, 2), true);
        Check.due("closed", x.tell(0), 0);
        Check.dueEvents("setting it is no event", x, "2 52 52");
        Check.dueCall("closed again", x, 0);
        Check.due("one call", x.tell(1), 1);
        Check.due("breaker(4, 2, 10, 2)", x.breaker(4, 2, 10, 2), true);
        Check.due("window is empty", x.tell(1), 0);
        Check.due("failing()", x.failing(), -1.0);
        Check.due("sluggish()", x.sluggish(), -1.0);

        x = opened();
        Check.due("pass(10)", x.pass(10), true);
        Check.dueCall("trial", x, 0);
        Check.due("half open", x.tell(0) + " " + x.tell(2), "2 1");
        Check.due("breaker(4, 2, 10, 2)", x.breaker(4, 2, 10, 2), true);
        Check.due("closed, no trials", x.tell(0) + " " + x.tell(1) + " " + x.tell(2), "0 0 0");
    }

    private static void refusedBreakerChangesNothing() {
        GuardedCalls x = opened();
        Check.due("breaker(1, 1, 0, 5)", x.breaker(1, 1, 0, 5), false);
        Check.due("breaker(1, 1, 101, 1)", x.breaker(1, 1, 101, 1), false);
        Check.due("still open", x.tell(0), 1);
        Check.dueCall("WAIT is still 10", x, Check.ISE);
        Check.due("pass(10)", x.pass(10), true);
        Check.dueCall("trial", x, 0);
        Check.due("breaker(1, 2, 0, 1)", x.breaker(1, 2, 0, 1), false);
        Check.due("half open, one trial", x.tell(0) + " " + x.tell(1) + " " + x.tell(2), "2 1 1");
        Check.dueCall("second trial", x, 0);
        Check.due("closed after 2 trials", x.tell(0), 0);
        for (int i = 0; i < 5; i++) {
            Check.dueCall("fill", x, 0);
        }
        Check.due("SIZE is still 4", x.tell(1), 4);
    }

    private static void tripsRefusesWrongInputs() {
        GuardedCalls x = new GuardedCalls();
        double[] wrong = {0.0, -0.0, -1.0, 100.00000000000001, 101.0, Double.NaN,
            Double.POSITIVE_INFINITY, Double.NEGATIVE_INFINITY, Double.MAX_VALUE};
        for (double rate : wrong) {
            Check.due("trips(" + rate + ", 50.0, 5)", x.trips(rate, 50.0, 5), false);
            Check.due("trips(50.0, " + rate + ", 5)", x.trips(50.0, rate, 5), false);
        }
        int[] slow = {-1, 101, Integer.MIN_VALUE, Integer.MAX_VALUE};
        for (int ticks : slow) {
            Check.due("trips(50.0, 50.0, " + ticks + ")", x.trips(50.0, 50.0, ticks), false);
        }
    }

    private static void tripsTakesTheEdges() {
        GuardedCalls x = Check.with(0);
        Check.due("trips(min, 100.0, 100)", x.trips(Double.MIN_VALUE, 100.0, 100), true);
        Check.dueCall("first", x, 0);
        Check.dueCall("second", x, 0);
        Check.due("0.0 is below the least rate", x.tell(0), 0);
        Check.due("trips(100.0, min, 0)", x.trips(100.0, Double.MIN_VALUE, 0), true);
        Check.dueCall("no tick is slow when SLOW is 0", x, 0);
        Check.due("open", x.tell(0), 1);
    }

    private static void tripsKeepsTheWindow() {
        GuardedCalls x = Check.with(0);
        Check.due("breaker(4, 4, 0, 1)", x.breaker(4, 4, 0, 1), true);
        Check.outcomes(x, 2, 0, 4, 0);
        Check.dueCall("4 ticks", x, 0);
        Check.due("trips(50.0, 100.0, 4)", x.trips(50.0, 100.0, 4), true);
        Check.due("what is in the window stays", x.tell(1) + " " + x.sluggish(), "1 0.0");
        Check.dueCall("4 ticks", x, 0);
        Check.due("one of two is slow", x.sluggish(), 50.0);

        x = opened();
        Check.due("trips(50.0, 100.0, 4)", x.trips(50.0, 100.0, 4), true);
        Check.due("it stays open", x.tell(0), 1);
    }

    private static void refusedTripsChangesNothing() {
        GuardedCalls x = Check.with(0);
        Check.due("trips(1.0, 1.0, 101)", x.trips(1.0, 1.0, 101), false);
        Check.due("trips(1.0, 0.0, 1)", x.trips(1.0, 0.0, 1), false);
        Check.due("trips(0.0, 1.0, 1)", x.trips(0.0, 1.0, 1), false);
        Check.outcomes(x, 1, 0, 4, 0);
        Check.outcomes(x, 1, 0, 5, 0);
        Check.outcomes(x, 1, 1, 0, 0);
        Check.dueCall("4 ticks", x, 0);
        Check.due("4 ticks are not slow", x.sluggish(), 0.0);
        Check.dueCall("5 ticks", x, 0);
        Check.due("5 ticks are slow", x.sluggish(), 50.0);
        Check.dueCall("a third fails", x, Check.IAE);
        Check.due("closed at 33.3", x.tell(0), 0);
    }

    private static void windowKeepsTheLastCalls() {
        for (int size = 1; size <= 8; size++) {
            GuardedCalls x = Check.with(0);
            Check.due("breaker", x.breaker(size, size, 0, 1), true);
            Check.due("trips", x.trips(100.0, 100.0, 1), true);
            if (size > 1) {
                Check.outcomes(x, 1, 1, 0, 0);
                Check.dueCall("the one that fails", x, Check.IAE);
                Check.outcomes(x, 1, 0, 1, 0);
                Check.dueCall("the slow one", x, 0);
            }
            for (int n = size > 1 ? 3 : 1; n <= size; n++) {
                Check.dueCall("good " + n, x, 0);
            }
            Check.due("window of " + size, x.tell(1), size);
            Check.due("failing of " + size, x.failing(), size > 1 ? 100.0 / size : 0.0);
            Check.due("sluggish of " + size, x.sluggish(), size > 1 ? 100.0 / size : 0.0);
            Check.dueCall("one more", x, 0);
            Check.due("the failed one went", x.failing(), 0.0);
            Check.due("the slow one is there", x.sluggish(), size > 1 ? 100.0 / size : 0.0);
            Check.dueCall("one more", x, 0);
            Check.due("the slow one went", x.sluggish(), 0.0);
            Check.due("window of " + size, x.tell(1), size);
        }
    }

    private static void ratesAreOfAllInTheWindow() {
        GuardedCalls x = Check.with(0);
        Check.due("breaker(8, 8, 0, 1)", x.breaker(8, 8, 0, 1), true);
        Check.due("trips(100.0, 100.0, 2)", x.trips(100.0, 100.0, 2), true);
        Check.due("failing() of none", x.failing(), -1.0);
        Check.due("sluggish() of none", x.sluggish(), -1.0);
        Check.outcomes(x, 1, 1, 2, 0);
        Check.outcomes(x, 1, 2, 0, 0);
        Check.outcomes(x, 1, 0, 1, 9);
        Check.dueCall("failed and slow", x, Check.IAE);
        Check.due("rates", x.failing() + " " + x.sluggish(), "100.0 100.0");
        Check.dueCall("failed", x, Check.UOE);
        Check.due("rates", x.failing() + " " + x.sluggish(), "100.0 50.0");
        Check.dueCall("good", x, 9);
        Check.due("rates", x.failing() + " " + x.sluggish(), (200.0 / 3) + " " + (100.0 / 3));

        // The rate itself is reached, and a rate above it by the least step is not.
        x = thirdFailed(100.0 / 3);
        Check.due("open at 100.0 / 3", x.tell(0), 1);
        x = thirdFailed(Math.nextUp(100.0 / 3));
        Check.due("closed below it", x.tell(0), 0);
    }

    private static GuardedCalls thirdFailed(double failures) {
        GuardedCalls x = Check.with(0);
        Check.due("breaker(3, 3, 0, 1)", x.breaker(3, 3, 0, 1), true);
        Check.due("trips", x.trips(failures, 100.0, 50), true);
        Check.outcomes(x, 1, 1, 0, 0);
        Check.dueCall("fails", x, Check.IAE);
        Check.dueCall("good", x, 0);
        Check.dueCall("good", x, 0);
        return x;
    }

    private static void emptyWindowForgetsAll() {
        GuardedCalls x = Check.with(0);
        Check.outcomes(x, 1, 1, 5, 0);
        Check.dueCall("failed and slow", x, Check.IAE);
        Check.due("rates", x.failing() + " " + x.sluggish(), "100.0 100.0");
        Check.due("breaker(4, 4, 0, 1)", x.breaker(4, 4, 0, 1), true);
        for (int n = 1; n <= 4; n++) {
            Check.dueCall("good", x, 0);
            Check.due("rates", x.failing() + " " + x.sluggish(), "0.0 0.0");
        }
    }

    private static void leastCallsAreNeeded() {
        GuardedCalls x = Check.with(0);
        Check.due("breaker(8, 5, 0, 1)", x.breaker(8, 5, 0, 1), true);
        Check.outcomes(x, 5, 2, 0, 0);
        for (int n = 1; n <= 4; n++) {
            Check.dueCall("fails", x, Check.UOE);
            Check.due("closed with " + n, x.tell(0) + " " + x.tell(1), "0 " + n);
        }
        Check.dueCall("fails", x, Check.UOE);
        Check.due("open with 5, window empty", x.tell(0) + " " + x.tell(1), "1 0");
        Check.due("failing()", x.failing(), -1.0);
        Check.due("sluggish()", x.sluggish(), -1.0);
        Check.dueEvents("opened", x, "2 53 53 53 53 53");
    }

    private static void waitIsCountedFromTheOpening() {
        GuardedCalls x = Check.with(0);
        Check.due("breaker(1, 1, 7, 1)", x.breaker(1, 1, 7, 1), true);
        Check.outcomes(x, 1, 1, 30, 0);
        Check.dueCall("opens at the call's end", x, Check.IAE);
        Check.due("clock", x.tell(7), 30);
        Check.due("pass(6)", x.pass(6), true);
        Check.dueCall("6 behind", x, Check.ISE);
        Check.due("refusing takes no time", x.tell(7), 36);
        Check.due("the supplier was not called", x.tell(6), 1);
        Check.due("pass(1)", x.pass(1), true);
        Check.due("open until it is called", x.tell(0), 1);
        Check.outcomes(x, 1, 2, 4, 0);
        Check.dueCall("trial", x, Check.UOE);
        Check.due("open again", x.tell(0), 1);
        Check.dueEvents("open again", x, "2 53 3 1 2 52");
        Check.due("pass(6)", x.pass(6), true);
        Check.dueCall("6 behind the second opening", x, Check.ISE);
        Check.due("pass(1)", x.pass(1), true);
        Check.dueCall("trial", x, 0);
        Check.due("closed", x.tell(0) + " " + x.tell(1), "0 0");
        Check.dueEvents("closed", x, "4 51 3 1 2 53 3 1");
    }

    private static void trialsDecide() {
        GuardedCalls x = halfOpenable(4, 75.0);
        for (int n = 1; n <= 3; n++) {
            Check.outcomes(x, 1, n < 3 ? 1 : 0, 0, 0);
            Check.dueCall("trial " + n, x, n < 3 ? Check.IAE : "0");
            Check.due("half open with " + n, x.tell(0) + " " + x.tell(1) + " " + x.tell(2), "2 " + n + " " + n);
        }
        Check.due("failing()", x.failing(), 200.0 / 3);
        Check.dueCall("trial 4", x, 0);
        Check.due("closed at 50.0", x.tell(0) + " " + x.tell(1) + " " + x.tell(2), "0 0 0");

        x = halfOpenable(4, 75.0);
        Check.outcomes(x, 1, 0, 0, 0);
        Check.outcomes(x, 3, 1, 0, 0);
        Check.dueCall("trial 1", x, 0);
        Check.dueCall("trial 2", x, Check.IAE);
        Check.dueCall("trial 3", x, Check.IAE);
        Check.due("pass(5)", x.pass(5), true);
        Check.dueCall("trial 4", x, Check.IAE);
        Check.due("open at 75.0", x.tell(0) + " " + x.tell(1) + " " + x.tell(2), "1 0 0");
        Check.dueCall("open (now)", x, Check.ISE);

        // Slow trials open it as well as failed ones.
        x = halfOpenable(1, 75.0);
        Check.due("trips(100.0, 100.0, 3)", x.trips(100.0, 100.0, 3), true);
        Check.outcomes(x, 1, 0, 3, 8);
        Check.dueCall("slow trial", x, 8);
        Check.due("open", x.tell(0), 1);
    }

    private static void trialsDoNotNeedLeast() {
        GuardedCalls x = Check.with(0);
        Check.due("breaker(8, 8, 1, 1)", x.breaker(8, 8, 1, 1), true);
        Check.outcomes(x, 9, 1, 0, 0);
        for (int n = 0; n < 8; n++) {
            Check.dueCall("fails", x, Check.IAE);
        }
        Check.due("pass(1)", x.pass(1), true);
        Check.dueCall("one trial", x, Check.IAE);
        Check.due("open", x.tell(0), 1);
        Check.due("events", x.event(0) + " " + x.event(1) + " " + x.event(2), "2 52 3");
    }

    /** The window keeps SIZE calls, so it never has TRIALS of them: the trials are used up. */
    private static void trialsBehindSizeAreStuck() {
        GuardedCalls x = Check.with(0);
        Check.due("breaker(1, 1, 0, 2)", x.breaker(1, 1, 0, 2), true);
        Check.outcomes(x, 1, 1, 0, 0);
        Check.dueCall("opens", x, Check.IAE);
        Check.dueCall("trial 1", x, 0);
        Check.dueCall("trial 2", x, 0);
        Check.due("half open", x.tell(0) + " " + x.tell(1) + " " + x.tell(2), "2 1 2");
        Check.dueCall("no third trial", x, Check.ISE);
        Check.due("pass(100)", x.pass(100), true);
        Check.dueCall("nor later", x, Check.ISE);
        Check.dueEvents("stuck", x, "1 1 51 51 3 2 52");
    }

    private static void slownessIsTheWholeCallInside() {
        // The retry inside waits 1 and 2 ticks, and that counts.
        GuardedCalls x = Check.with(3, 0);
        Check.due("breaker(1, 1, 0, 1)", x.breaker(1, 1, 0, 1), true);
        Check.due("trips(100.0, 100.0, 4)", x.trips(100.0, 100.0, 4), true);
        Check.outcomes(x, 2, 1, 0, 0);
        Check.outcomes(x, 1, 0, 1, 5);
        Check.dueCall("3 ticks of waiting, 1 of latency", x, 5);
        Check.due("slow", x.tell(0), 1);

        // The limiter outside waits before the breaker is there.
        x = Check.with(0, 2);
        Check.due("limiter(5, 1, 100)", x.limiter(5, 1, 100), true);
        Check.dueCall("first", x, 0);
        Check.dueCall("second", x, 0);
        Check.due("waited", x.tell(7), 5);
        Check.due("not slow", x.sluggish(), 0.0);
    }

    private static void breakerSeesInnerRefusals() {
        GuardedCalls x = Check.with(1, 0);
        Check.due("bulkhead(0)", x.bulkhead(0), true);
        Check.dueCall("refused inside", x, Check.IOOBE);
        Check.due("failed", x.failing(), 100.0);
        Check.dueCall("refused inside", x, Check.IOOBE);
        Check.dueCall("open", x, Check.ISE);
        Check.dueEvents("open", x, "1 2 11 11");

        x = Check.with(0, 4);
        Check.due("breaker(2, 1, 5, 1)", x.breaker(2, 1, 5, 1), true);
        Check.outcomes(x, 1, 0, 11, 0);
        Check.dueCall("cut off", x, Check.AE);
        Check.dueEvents("cut off", x, "2 41");
        Check.due("opened at the deadline", x.tell(7), 10);
        Check.due("pass(4)", x.pass(4), true);
        Check.dueCall("4 behind", x, Check.ISE);
        Check.due("pass(1)", x.pass(1), true);
        Check.dueCall("5 behind", x, 0);
    }

    private static void breakerKeepsItsStateOffTheStack() {
        GuardedCalls x = opened();
        Check.due("strip()", x.strip(), 1);
        Check.dueCall("without it", x, 0);
        Check.due("still open", x.tell(0), 1);
        Check.due("lay(0)", x.lay(0), 1);
        Check.dueCall("with it", x, Check.ISE);
    }

    /** An object whose breaker has opened at tick 0, with WAIT 10 and 2 trials. */
    private static GuardedCalls opened() {
        GuardedCalls x = Check.with(0);
        Check.outcomes(x, 2, 1, 0, 0);
        Check.dueCall("fails", x, Check.IAE);
        Check.dueCall("fails", x, Check.IAE);
        Check.due("open", x.tell(0), 1);
        return x;
    }

    /** An object whose breaker is open, and half open from tick 3 on. */
    private static GuardedCalls halfOpenable(int trials, double failures) {
        GuardedCalls x = Check.with(0);
        Check.due("breaker(4, 1, 3, trials)", x.breaker(4, 1, 3, trials), true);
        Check.due("trips", x.trips(failures, 100.0, 50), true);
        Check.outcomes(x, 1, 1, 0, 0);
        Check.dueCall("opens", x, Check.IAE);
        Check.due("pass(3)", x.pass(3), true);
        return x;
    }
}
