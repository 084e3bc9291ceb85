/** Promises 12, 13 and 14: outcomes, time that passes, and calls on an empty stack. */
public final class SupplierTest {
    public static void main(String[] args) {
        outcomeRefusesWrongInputs();
        outcomesComeInTheirOrder();
        atMost20Wait();
        rowIsUsedManyTimes();
        withoutOutcomeItAnswers0();
        valuesAreAnyInt();
        passKeepsItsBounds();
        everyExceptionComesOut();
        longRun();
        Check.finish();
    }

    private static void outcomeRefusesWrongInputs() {
        GuardedCalls x = new GuardedCalls();
        int[][] wrong = {{-1, 0}, {3, 0}, {0, -1}, {0, 51}, {1, 51}, {2, -1}, {Integer.MIN_VALUE, 0},
            {Integer.MAX_VALUE, 0}, {0, Integer.MIN_VALUE}, {0, Integer.MAX_VALUE}};
        for (int[] a : wrong) {
            Check.due("outcome" + java.util.Arrays.toString(a), x.outcome(a[0], a[1], 1), false);
        }
        Check.due("outcomes left", x.tell(5), 0);
        Check.dueCall("none came", x, 0);
    }

    private static void outcomesComeInTheirOrder() {
        GuardedCalls x = new GuardedCalls();
        Check.due("outcome(0, 50, 3)", x.outcome(0, 50, 3), true);
        Check.due("outcome(1, 0, 4)", x.outcome(1, 0, 4), true);
        Check.due("outcome(2, 7, 5)", x.outcome(2, 7, 5), true);
        Check.due("outcome(0, 0, 6)", x.outcome(0, 0, 6), true);
        Check.due("tells", Check.tells(x), "0 0 0 0 2 4 0 0");
        Check.dueCall("answers", x, 3);
        Check.due("tells", Check.tells(x), "0 0 0 0 2 3 1 50");
        Check.dueCall("first way", x, Check.IAE);
        Check.due("tells", Check.tells(x), "0 0 0 0 2 2 2 50");
        Check.dueCall("second way", x, Check.UOE);
        Check.due("tells", Check.tells(x), "0 0 0 0 2 1 3 57");
        Check.dueCall("answers", x, 6);
        Check.dueEvents("in order", x, "51 53 52 51");
    }

    private static void atMost20Wait() {
        GuardedCalls x = new GuardedCalls();
        for (int n = 1; n <= 20; n++) {
            Check.due("outcome " + n, x.outcome(0, 0, n), true);
        }
        Check.due("outcome 21", x.outcome(0, 0, 21), false);
        Check.due("outcomes left", x.tell(5), 20);
        Check.dueCall("first", x, 1);
        Check.due("one place", x.outcome(0, 0, 22), true);
        Check.due("no more", x.outcome(0, 0, 23), false);
        for (int n = 2; n <= 20; n++) {
            Check.dueCall("in order", x, n);
        }
        Check.dueCall("the one behind", x, 22);
        Check.dueCall("the row is empty", x, 0);
    }

    private static void rowIsUsedManyTimes() {
        GuardedCalls x = new GuardedCalls();
        int put = 0;
        int taken = 0;
        for (int round = 0; round < 15; round++) {
            for (int n = 0; n < 7; n++) {
                Check.due("outcome", x.outcome(put % 3, put % 5, put), true);
                put++;
            }
            for (int n = 0; n < 7; n++) {
                int before = x.tell(7);
                Check.dueCall("outcome " + taken, x, new String[] {"" + taken, Check.IAE, Check.UOE}[taken % 3]);
                Check.due("latency", x.tell(7) - before, taken % 5);
                taken++;
            }
        }
        Check.due("supplier's calls", x.tell(6), 105);
    }

    private static void withoutOutcomeItAnswers0() {
        GuardedCalls x = new GuardedCalls();
        Check.outcomes(x, 1, 0, 1, 9);
        Check.dueCall("an outcome", x, 9);
        Check.dueCall("none", x, 0);
        Check.due("no time", x.tell(7), 1);
        Check.due("it was called", x.tell(6), 2);
        Check.dueEvents("it answered", x, "51 51");
    }

    private static void valuesAreAnyInt() {
        GuardedCalls x = Check.with(0, 1, 2, 3, 4);
        Check.due("limiter(1, 5, 1)", x.limiter(1, 5, 1), true);
        int[] values = {Integer.MIN_VALUE, -1, 0, 1, Integer.MAX_VALUE};
        for (int value : values) {
            Check.due("outcome", x.outcome(0, 0, value), true);
            Check.dueCall("value", x, value);
        }
        Check.outcomes(x, 1, 1, 0, 123);
        Check.outcomes(x, 1, 0, 0, -7);
        Check.dueCall("the value of the last attempt", x, -7);
    }

    private static void passKeepsItsBounds() {
        GuardedCalls x = new GuardedCalls();
        int[] wrong = {-1, 101, Integer.MIN_VALUE, Integer.MAX_VALUE};
        for (int n : wrong) {
            Check.due("pass(" + n + ")", x.pass(n), false);
            Check.due("clock", x.tell(7), 0);
        }
        Check.due("pass(0)", x.pass(0), true);
        Check.due("clock", x.tell(7), 0);
        Check.due("pass(100)", x.pass(100), true);
        Check.due("pass(1)", x.pass(1), true);
        Check.due("clock", x.tell(7), 101);
        Check.dueEvents("none of pass", x, "");
        Check.due("lay(4)", x.lay(4), 1);
        Check.due("timer(0)", x.timer(0), true);
        Check.due("no deadline outside a call", x.pass(50), true);
        Check.due("clock", x.tell(7), 151);
    }

    private static void everyExceptionComesOut() {
        GuardedCalls x = Check.with(0);
        Check.due("breaker(1, 1, 100, 1)", x.breaker(1, 1, 100, 1), true);
        Check.outcomes(x, 1, 1, 0, 0);
        Check.dueCall("16", x, Check.IAE);
        Check.dueCall("1", x, Check.ISE);
        x = Check.with(1);
        Check.due("bulkhead(0)", x.bulkhead(0), true);
        Check.dueCall("2", x, Check.IOOBE);
        x = Check.with(2);
        Check.due("limiter(2, 1, 1)", x.limiter(2, 1, 1), true);
        Check.dueCall("permit", x, 0);
        Check.dueCall("4", x, Check.NSEE);
        x = Check.with(4);
        Check.due("timer(0)", x.timer(0), true);
        Check.outcomes(x, 1, 0, 1, 0);
        Check.outcomes(x, 1, 2, 0, 0);
        Check.dueCall("8", x, Check.AE);
        Check.dueCall("32", x, Check.UOE);
    }

    /** As many calls as an object is used for: 512. */
    private static void longRun() {
        GuardedCalls x = new GuardedCalls();
        for (int n = 1; n <= 255; n++) {
            Check.due("pass(100)", x.pass(100), true);
            Check.dueCall("call " + n, x, 0);
        }
        Check.due("clock", x.tell(7), 25500);
        Check.due("supplier's calls", x.tell(6), 255);
    }
}
