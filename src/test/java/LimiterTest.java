/** Promise 6, and what the limiter does with a call. */
public final class LimiterTest {
    public static void main(String[] args) {
        refusesWrongInputs();
        refusedChangesNothing();
        takesTheEdges();
        everyTickIsACycle();
        settingBeginsTheCycleNow();
        leftIsAsOfTheLastCall();
        aLaterCycleFillsUp();
        permitsAreOfOneCycle();
        patienceIsExact();
        waitingFillsUpOnce();
        cutOffWaitingTakesNoPermit();
        permitIsSpentWhatCameBack();
        Check.finish();
    }

    private static void refusesWrongInputs() {
        GuardedCalls x = new GuardedCalls();
        int[][] wrong = {{0, 1, 1}, {-1, 1, 1}, {51, 1, 1}, {1, 0, 1}, {1, -1, 1}, {1, 6, 1}, {1, 1, -1},
            {1, 1, 101}, {Integer.MIN_VALUE, 1, 1}, {Integer.MAX_VALUE, 1, 1}, {1, Integer.MIN_VALUE, 1},
            {1, Integer.MAX_VALUE, 1}, {1, 1, Integer.MIN_VALUE}, {1, 1, Integer.MAX_VALUE}};
        for (int[] a : wrong) {
            Check.due("limiter" + java.util.Arrays.toString(a), x.limiter(a[0], a[1], a[2]), false);
        }
    }

    private static void refusedChangesNothing() {
        GuardedCalls x = Check.with(2);
        Check.dueCall("first", x, 0);
        Check.due("limiter(1, 5, 101)", x.limiter(1, 5, 101), false);
        Check.due("limiter(1, 6, 100)", x.limiter(1, 6, 100), false);
        Check.due("limiter(0, 5, 100)", x.limiter(0, 5, 100), false);
        Check.due("LEFT", x.tell(4), 1);
        Check.dueCall("second", x, 0);
        Check.dueCall("PERIOD 10, PATIENCE 5 still", x, Check.NSEE);
        Check.due("pass(5)", x.pass(5), true);
        Check.dueCall("waits", x, 0);
        Check.due("LIMIT 2 still", x.tell(4), 1);
    }

    private static void takesTheEdges() {
        GuardedCalls x = Check.with(2);
        Check.due("limiter(1, 1, 0)", x.limiter(1, 1, 0), true);
        Check.dueCall("first", x, 0);
        Check.dueCall("a wait of 1 is more than 0", x, Check.NSEE);
        Check.due("limiter(50, 5, 100)", x.limiter(50, 5, 100), true);
        for (int n = 5; n >= 1; n--) {
            Check.due("LEFT", x.tell(4), n);
            Check.dueCall("permit", x, 0);
        }
        Check.due("LEFT", x.tell(4), 0);
        Check.dueCall("waits 50", x, 0);
        Check.due("clock", x.tell(7), 50);
        Check.due("LEFT", x.tell(4), 4);
    }

    private static void everyTickIsACycle() {
        GuardedCalls x = Check.with(2);
        Check.due("pass(3)", x.pass(3), true);
        Check.due("limiter(1, 1, 1)", x.limiter(1, 1, 1), true);
        for (int n = 0; n < 4; n++) {
            Check.dueCall("permit", x, 0);
            Check.due("clock", x.tell(7), 3 + n);
        }
        Check.due("pass(1)", x.pass(1), true);
        Check.dueCall("no waiting", x, 0);
        Check.dueEvents("every tick", x, "51 51 22 51 22 51 22 51");
    }

    private static void settingBeginsTheCycleNow() {
        GuardedCalls x = Check.with(2);
        Check.due("pass(100)", x.pass(100), true);
        Check.dueCall("cycle 10", x, 0);
        Check.due("LEFT", x.tell(4), 1);
        // The cycle of the new period is 2, which is no later one than 10 but begins anew.
        Check.due("limiter(40, 3, 20)", x.limiter(40, 3, 20), true);
        Check.due("LEFT is LIMIT", x.tell(4), 3);
        for (int n = 2; n >= 0; n--) {
            Check.dueCall("cycle 2", x, 0);
            Check.due("LEFT", x.tell(4), n);
        }
        Check.dueCall("waits until 120", x, 0);
        Check.due("clock", x.tell(7), 120);
        Check.dueEvents("waits", x, "51 22 51 51 51 51");
        Check.due("LEFT", x.tell(4), 2);

        x = Check.with(2);
        Check.due("pass(49)", x.pass(49), true);
        Check.due("limiter(5, 1, 0)", x.limiter(5, 1, 0), true);
        Check.dueCall("cycle 9", x, 0);
        Check.dueCall("still cycle 9", x, Check.NSEE);
        Check.due("pass(1)", x.pass(1), true);
        Check.dueCall("cycle 10", x, 0);
    }

    private static void leftIsAsOfTheLastCall() {
        GuardedCalls x = Check.with(2);
        Check.dueCall("first", x, 0);
        Check.dueCall("second", x, 0);
        Check.due("pass(100)", x.pass(100), true);
        Check.due("LEFT is not looked at anew", x.tell(4), 0);
        Check.dueCall("first of cycle 10", x, 0);
        Check.due("LEFT", x.tell(4), 1);
        Check.due("strip()", x.strip(), 1);
        Check.dueCall("without the limiter", x, 0);
        Check.due("LEFT", x.tell(4), 1);
    }

    private static void aLaterCycleFillsUp() {
        GuardedCalls x = Check.with(2);
        Check.dueCall("cycle 0", x, 0);
        Check.due("pass(9)", x.pass(9), true);
        Check.dueCall("tick 9 is cycle 0", x, 0);
        Check.due("LEFT", x.tell(4), 0);
        Check.due("pass(1)", x.pass(1), true);
        Check.dueCall("tick 10 is cycle 1", x, 0);
        Check.due("LEFT is not heaped up", x.tell(4), 1);
        Check.due("pass(30)", x.pass(30), true);
        Check.dueCall("cycle 4", x, 0);
        Check.due("LEFT is not heaped up", x.tell(4), 1);
        Check.dueEvents("no waiting", x, "51 51 51 51");
    }

    private static void permitsAreOfOneCycle() {
        GuardedCalls x = Check.with(2);
        Check.due("pass(25)", x.pass(25), true);
        Check.dueCall("cycle 2", x, 0);
        Check.dueCall("cycle 2", x, 0);
        Check.dueCall("waits to cycle 3, not to cycle 1", x, 0);
        Check.due("clock", x.tell(7), 30);
    }

    private static void patienceIsExact() {
        for (int patience = 0; patience <= 8; patience++) {
            GuardedCalls x = Check.with(2);
            Check.due("limiter", x.limiter(7, 1, patience), true);
            Check.due("pass(3)", x.pass(3), true);
            Check.dueCall("the permit", x, 0);
            boolean patient = patience >= 4;
            Check.dueCall("patience " + patience, x, patient ? "0" : Check.NSEE);
            Check.due("clock", x.tell(7), patient ? 7 : 3);
            Check.due("supplier's calls", x.tell(6), patient ? 2 : 1);
            Check.dueEvents("patience " + patience, x, patient ? "51 22 51" : "21 51");
            Check.due("LEFT", x.tell(4), 0);
        }
    }

    private static void waitingFillsUpOnce() {
        GuardedCalls x = Check.with(2);
        Check.due("limiter(10, 2, 10)", x.limiter(10, 2, 10), true);
        for (int n = 0; n < 6; n++) {
            Check.dueCall("call " + n, x, 0);
            Check.due("clock", x.tell(7), n / 2 * 10);
            Check.due("LEFT", x.tell(4), 1 - n % 2);
        }
        Check.dueEvents("two waits", x, "51 51 22 51 51 22 51 51");
    }

    private static void cutOffWaitingTakesNoPermit() {
        GuardedCalls x = Check.with(2, 4);
        Check.due("timer(3)", x.timer(3), true);
        Check.due("limiter(10, 1, 10)", x.limiter(10, 1, 10), true);
        Check.dueCall("the permit", x, 0);
        Check.dueCall("cut off at 3", x, Check.AE);
        Check.due("tells", Check.tells(x), "0 0 0 0 0 0 1 3");
        Check.dueCall("cut off at 6", x, Check.AE);
        Check.due("clock", x.tell(7), 6);
        Check.due("pass(1)", x.pass(1), true);
        Check.dueCall("the next cycle is the deadline", x, 0);
        Check.due("tells", Check.tells(x), "0 0 0 0 0 0 2 10");
        Check.dueEvents("cut off", x, "51 22 41 22 41 22 51");
    }

    private static void permitIsSpentWhatCameBack() {
        GuardedCalls x = Check.with(2);
        Check.outcomes(x, 1, 1, 0, 0);
        Check.dueCall("fails", x, Check.IAE);
        Check.due("LEFT", x.tell(4), 1);
        // The retry outside takes a permit for each attempt.
        x = Check.with(2, 3);
        Check.due("limiter(50, 3, 0)", x.limiter(50, 3, 0), true);
        Check.outcomes(x, 2, 1, 0, 0);
        Check.dueCall("third attempt", x, 0);
        Check.due("LEFT", x.tell(4), 0);
        // The retry inside goes through it once.
        x = Check.with(3, 2);
        Check.outcomes(x, 2, 1, 0, 0);
        Check.dueCall("third attempt", x, 0);
        Check.due("LEFT", x.tell(4), 1);
    }
}
