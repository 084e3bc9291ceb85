/** Promise 1: every value that a new object begins with, seen by what the policies do. */
public final class NewObjectTest {
    public static void main(String[] args) {
        nothingHappenedYet();
        windowBeginsWithSize4();
        breakerTripsFromLeast2();
        breakerWaits10AndTakes2Trials();
        breakerIsTrippedBySlowness();
        breakerIsNotTrippedBelowItsRates();
        capacityIs2();
        limiterHas2PermitsIn10Ticks();
        limiterHasPatienceFor5();
        retryMakes3Attempts();
        backoffIsCappedAt8();
        retryRepeatsOnlyTheFirstWay();
        timerSpans10();
        objectsAreApart();
        Check.finish();
    }

    private static void nothingHappenedYet() {
        GuardedCalls x = new GuardedCalls();
        Check.due("tells", Check.tells(x), "0 0 0 0 2 0 0 0");
        Check.due("failing()", x.failing(), -1.0);
        Check.due("sluggish()", x.sluggish(), -1.0);
        Check.dueEvents("new", x, "");
        Check.due("strip()", x.strip(), 0);
        Check.dueCall("empty stack", x, 0);
    }

    private static void windowBeginsWithSize4() {
        GuardedCalls x = Check.with(0);
        for (int n = 1; n <= 6; n++) {
            Check.dueCall("call " + n, x, 0);
            Check.due("calls in the window", x.tell(1), Math.min(n, 4));
        }
    }

    private static void breakerTripsFromLeast2() {
        GuardedCalls x = Check.with(0);
        Check.outcomes(x, 1, 1, 0, 0);
        Check.dueCall("one failed", x, Check.IAE);
        Check.due("still closed", x.tell(0), 0);
        Check.dueCall("half of two failed", x, 0);
        Check.due("open at 50.0", x.tell(0), 1);

        x = Check.with(0);
        Check.dueCall("first", x, 0);
        Check.dueCall("second", x, 0);
        Check.outcomes(x, 1, 1, 0, 0);
        Check.dueCall("a third failed", x, Check.IAE);
        Check.due("closed at 33.3", x.tell(0), 0);
    }

    private static void breakerWaits10AndTakes2Trials() {
        GuardedCalls x = Check.with(0);
        Check.outcomes(x, 2, 1, 0, 0);
        Check.dueCall("first", x, Check.IAE);
        Check.dueCall("second", x, Check.IAE);
        Check.due("pass(9)", x.pass(9), true);
        Check.dueCall("after 9", x, Check.ISE);
        Check.due("pass(1)", x.pass(1), true);
        Check.dueCall("first trial", x, 0);
        Check.due("half open", x.tell(0), 2);
        Check.dueCall("second trial", x, 0);
        Check.due("closed", x.tell(0), 0);
    }

    private static void breakerIsTrippedBySlowness() {
        GuardedCalls x = Check.with(0);
        Check.outcomes(x, 1, 0, 4, 0);
        Check.outcomes(x, 1, 0, 5, 0);
        Check.dueCall("4 ticks", x, 0);
        Check.due("not slow", x.sluggish(), 0.0);
        Check.dueCall("5 ticks", x, 0);
        Check.due("slow", x.sluggish(), 50.0);
        Check.due("50.0 slow is not enough", x.tell(0), 0);

        x = Check.with(0);
        Check.outcomes(x, 2, 0, 5, 0);
        Check.dueCall("slow 1", x, 0);
        Check.dueCall("slow 2", x, 0);
        Check.due("open at 100.0 slow", x.tell(0), 1);
    }

    /** The nearest rates that there are below FAILURES 50.0 and SLUGGISH 100.0: 3 of 7, and 7 of 8. */
    private static void breakerIsNotTrippedBelowItsRates() {
        GuardedCalls x = Check.with(0);
        Check.due("breaker(7, 7, 0, 1)", x.breaker(7, 7, 0, 1), true);
        Check.outcomes(x, 3, 1, 0, 0);
        for (int n = 1; n <= 7; n++) {
            Check.dueCall("call " + n, x, n <= 3 ? Check.IAE : "0");
        }
        Check.due("closed at 42.9 failed", x.tell(0), 0);

        x = Check.with(0);
        Check.due("breaker(8, 8, 0, 1)", x.breaker(8, 8, 0, 1), true);
        Check.outcomes(x, 7, 0, 5, 0);
        for (int n = 1; n <= 8; n++) {
            Check.dueCall("call " + n, x, 0);
        }
        Check.due("closed at 87.5 slow", x.tell(0), 0);
    }

    private static void capacityIs2() {
        GuardedCalls x = Check.with(1);
        Check.due("use(1)", x.use(1), true);
        Check.dueCall("one used", x, 0);
        Check.due("use(1)", x.use(1), true);
        Check.dueCall("two used", x, Check.IOOBE);
    }

    private static void limiterHas2PermitsIn10Ticks() {
        GuardedCalls x = Check.with(2);
        Check.dueCall("first", x, 0);
        Check.dueCall("second", x, 0);
        Check.dueCall("third", x, Check.NSEE);
        Check.due("pass(10)", x.pass(10), true);
        Check.dueCall("first of cycle 1", x, 0);
        Check.due("no wait", x.tell(7), 10);
        Check.due("left", x.tell(4), 1);
    }

    private static void limiterHasPatienceFor5() {
        GuardedCalls x = Check.with(2);
        Check.dueCall("first", x, 0);
        Check.dueCall("second", x, 0);
        Check.due("pass(4)", x.pass(4), true);
        Check.dueCall("6 ticks early", x, Check.NSEE);
        Check.due("pass(1)", x.pass(1), true);
        Check.dueCall("5 ticks early", x, 0);
        Check.due("waited", x.tell(7), 10);
    }

    private static void retryMakes3Attempts() {
        GuardedCalls x = Check.with(3);
        Check.outcomes(x, 4, 1, 0, 0);
        Check.dueCall("all fail", x, Check.IAE);
        Check.due("attempts", x.tell(6), 3);
        Check.due("waited 1 and 2", x.tell(7), 3);
        Check.dueEvents("all fail", x, "32 52 31 52 31 52");
    }

    private static void backoffIsCappedAt8() {
        GuardedCalls x = Check.with(3);
        Check.due("retry(5, 16)", x.retry(5, 16), true);
        Check.outcomes(x, 5, 1, 0, 0);
        Check.dueCall("all fail", x, Check.IAE);
        Check.due("waited 1 + 2 + 4 + 8", x.tell(7), 15);
    }

    private static void retryRepeatsOnlyTheFirstWay() {
        GuardedCalls x = Check.with(3);
        Check.outcomes(x, 1, 2, 0, 0);
        Check.dueCall("second way", x, Check.UOE);
        Check.due("attempts", x.tell(6), 1);
        Check.dueEvents("second way", x, "53");
    }

    private static void timerSpans10() {
        GuardedCalls x = Check.with(4);
        Check.outcomes(x, 1, 0, 10, 3);
        Check.outcomes(x, 1, 0, 11, 3);
        Check.dueCall("10 ticks", x, 3);
        Check.dueCall("11 ticks", x, Check.AE);
        Check.due("clock", x.tell(7), 20);
    }

    private static void objectsAreApart() {
        GuardedCalls x = Check.with(0, 1, 2, 3, 4);
        Check.due("pass(3)", x.pass(3), true);
        Check.due("use(1)", x.use(1), true);
        Check.dueCall("first object", x, 0);
        GuardedCalls y = new GuardedCalls();
        Check.due("tells of the second", Check.tells(y), "0 0 0 0 2 0 0 0");
        Check.dueEvents("second", y, "");
        Check.due("strip() of the second", y.strip(), 0);
    }
}
