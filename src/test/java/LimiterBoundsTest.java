/** The limiter's boundary cases, a test for each sentence of the document that names one. */
public final class LimiterBoundsTest {
    public static void main(String[] args) {
        fullInCycle0AtFirst();
        laterCycleIsFull();
        sameCycleIsNotFilledUp();
        manyCyclesLaterIsJustFull();
        refusedIfMoreThanPatience();
        noPatienceNeverWaits();
        refusedCallGoesNoFurther();
        waitingFillsUp();
        waitingEndsAtTheNextCycle();
        settingTakesTheCycleNow();
        cycleGoesOnAsTheClockDoes();
        Check.finish();
    }

    /** "LEFT permits of a CYCLE (LIMIT in the cycle 0 at first)": also if the first call comes at its last tick. */
    private static void fullInCycle0AtFirst() {
        for (int tick : new int[] {0, 1, 9}) {
            GuardedCalls x = Check.with(2);
            Check.due("LEFT", x.tell(4), 2);
            Check.due("pass", x.pass(tick), true);
            Check.dueCall("first", x, 0);
            Check.due("LEFT", x.tell(4), 1);
            Check.dueCall("second", x, 0);
            Check.due("LEFT", x.tell(4), 0);
            Check.due("clock", x.tell(7), tick);
        }
    }

    /** "the cycle now is clock / PERIOD, and if it is a later one than that, LEFT is LIMIT": at its very first tick. */
    private static void laterCycleIsFull() {
        for (int period = 1; period <= 50; period++) {
            for (int cycle = 1; cycle <= 3; cycle++) {
                GuardedCalls x = spentAt(cycle * period - 1, period, 3, 0);
                Check.dueCall("the last tick of a cycle", x, Check.NSEE);
                Check.due("pass(1)", x.pass(1), true);
                Check.dueCall("the first tick of the next, PERIOD " + period, x, 0);
                Check.due("LEFT", x.tell(4), 2);
                Check.due("clock", x.tell(7), cycle * period);
            }
        }
    }

    /** The same: a cycle that is not a later one gives no permits, from its first tick to its last. */
    private static void sameCycleIsNotFilledUp() {
        for (int period : new int[] {2, 3, 10, 50}) {
            GuardedCalls x = Check.with(2);
            Check.due("pass", x.pass(period), true);
            Check.due("limiter", x.limiter(period, 5, 0), true);
            Check.dueCall("the first tick", x, 0);
            Check.due("pass", x.pass(period - 1), true);
            Check.dueCall("the last tick", x, 0);
            Check.due("LEFT of PERIOD " + period, x.tell(4), 3);
        }
    }

    /** The same: what was left of a cycle is gone in a later one. */
    private static void manyCyclesLaterIsJustFull() {
        GuardedCalls x = Check.with(2);
        Check.due("limiter(1, 5, 0)", x.limiter(1, 5, 0), true);
        Check.dueCall("cycle 0", x, 0);
        for (int n = 0; n < 5; n++) {
            Check.due("pass(100)", x.pass(100), true);
            Check.dueCall("a hundred cycles later", x, 0);
            Check.due("LEFT", x.tell(4), 4);
        }
    }

    /** "If LEFT is 0, the call must wait for the next cycle: if that is more than PATIENCE ticks, it throws". */
    private static void refusedIfMoreThanPatience() {
        for (int period : new int[] {1, 2, 7, 50}) {
            for (int tick = 0; tick < period; tick++) {
                int ticks = period - tick;
                for (int patience = ticks - 1; patience <= ticks + 1; patience++) {
                    GuardedCalls x = spentAt(2 * period + tick, period, 1, patience);
                    String what = ticks + " ticks, PATIENCE " + patience;
                    Check.dueCall(what, x, ticks > patience ? Check.NSEE : "0");
                    Check.due(what + ": clock", x.tell(7), ticks > patience ? 2 * period + tick : 3 * period);
                    Check.due(what + ": event", x.event(ticks > patience ? 0 : 1), ticks > patience ? 21 : 22);
                }
            }
        }
    }

    /** The same with PATIENCE 0, the least: a cycle is at least one tick away. */
    private static void noPatienceNeverWaits() {
        for (int period = 1; period <= 50; period++) {
            GuardedCalls x = spentAt(period - 1, period, 1, 0);
            Check.dueCall("one tick away", x, Check.NSEE);
        }
    }

    /** A refused call takes no permit, no outcome and no time. */
    private static void refusedCallGoesNoFurther() {
        GuardedCalls x = spentAt(0, 10, 2, 9);
        Check.outcomes(x, 1, 0, 2, 7);
        for (int n = 0; n < 4; n++) {
            Check.dueCall("refused", x, Check.NSEE);
            Check.due("tells", Check.tells(x), "0 0 0 0 0 1 2 0");
        }
        Check.due("pass(1)", x.pass(1), true);
        Check.dueCall("waits 9", x, 7);
        Check.due("tells", Check.tells(x), "0 0 0 0 1 0 3 12");
    }

    /** "else it WAITS, and LEFT is LIMIT. It takes a permit, and goes in." */
    private static void waitingFillsUp() {
        for (int limit = 1; limit <= 5; limit++) {
            GuardedCalls x = spentAt(3, 10, limit, 100);
            Check.dueCall("waits", x, 0);
            Check.due("LEFT of " + limit, x.tell(4), limit - 1);
            for (int n = limit - 2; n >= 0; n--) {
                Check.dueCall("the cycle's other permits", x, 0);
                Check.due("LEFT of " + limit, x.tell(4), n);
                Check.due("clock", x.tell(7), 10);
            }
            Check.dueCall("waits for the cycle behind", x, 0);
            Check.due("clock", x.tell(7), 20);
            Check.due("LEFT of " + limit, x.tell(4), limit - 1);
        }
    }

    /** "the call must wait for the next cycle": the wait's end belongs to the cycle that was waited for. */
    private static void waitingEndsAtTheNextCycle() {
        for (int period : new int[] {1, 2, 49, 50}) {
            GuardedCalls x = spentAt(0, period, 2, 100);
            for (int cycle = 1; cycle <= 6; cycle++) {
                Check.dueCall("waits", x, 0);
                Check.due("clock", x.tell(7), cycle * period);
                Check.dueCall("does not fill up twice", x, 0);
                Check.due("LEFT", x.tell(4), 0);
                Check.due("clock", x.tell(7), cycle * period);
            }
        }
    }

    /** Promise 6, "its cycle is the one that is now, LEFT is LIMIT": at a cycle's first and last tick. */
    private static void settingTakesTheCycleNow() {
        for (int tick : new int[] {0, 19, 20, 39, 40}) {
            GuardedCalls x = Check.with(2);
            Check.due("pass", x.pass(tick), true);
            // The cycle of PERIOD 1 is a far later one than that of PERIOD 20.
            Check.due("limiter(1, 1, 0)", x.limiter(1, 1, 0), true);
            Check.dueCall("spent", x, 0);
            Check.due("limiter(20, 4, 100)", x.limiter(20, 4, 100), true);
            for (int n = 4; n >= 1; n--) {
                Check.due("LEFT", x.tell(4), n);
                Check.dueCall("permit", x, 0);
                Check.due("clock", x.tell(7), tick);
            }
            Check.dueCall("waits", x, 0);
            Check.due("the cycle behind " + tick, x.tell(7), (tick / 20 + 1) * 20);
        }
    }

    /** A cycle may come by a latency inside, and by a retry's waiting outside. */
    private static void cycleGoesOnAsTheClockDoes() {
        GuardedCalls x = Check.with(2);
        Check.due("limiter(10, 1, 0)", x.limiter(10, 1, 0), true);
        Check.outcomes(x, 1, 0, 9, 0);
        Check.outcomes(x, 1, 0, 10, 0);
        Check.dueCall("ends at 9", x, 0);
        Check.dueCall("still cycle 0", x, Check.NSEE);
        Check.due("pass(1)", x.pass(1), true);
        Check.dueCall("ends at 20", x, 0);
        Check.due("LEFT as it was in the call", x.tell(4), 0);
        Check.dueCall("cycle 2", x, 0);

        x = Check.with(2, 3);
        Check.due("limiter(10, 1, 0)", x.limiter(10, 1, 0), true);
        Check.due("retry(3, 4)", x.retry(3, 4), true);
        Check.due("backoff(9.0, 0.5, 9.0)", x.backoff(9.0, 0.5, 9.0), true);
        Check.dueCall("the permit", x, 0);
        Check.dueCall("refused at 0 and 9, let in at 13", x, 0);
        Check.dueEvents("two refusals", x, "51 31 21 31 21 51");
    }

    /** An object that has spent all permits of the cycle of that tick. */
    private static GuardedCalls spentAt(int tick, int period, int limit, int patience) {
        GuardedCalls x = Check.with(2);
        Check.pass(x, tick);
        Check.due("limiter", x.limiter(period, limit, patience), true);
        for (int n = 0; n < limit; n++) {
            Check.dueCall("permit " + n, x, 0);
        }
        Check.due("LEFT", x.tell(4), 0);
        return x;
    }
}
