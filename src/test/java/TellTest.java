/** Promises 17 and 18: what the object tells of itself, and the events that it keeps. */
public final class TellTest {
    public static void main(String[] args) {
        otherWhatsAreRefused();
        tellTellsEach();
        trialsAreToldOnlyHalfOpen();
        tellingChangesNothing();
        eventsOutsideAreRefused();
        lastEightEventsAreKept();
        everyEventIsSeen();
        Check.finish();
    }

    private static void otherWhatsAreRefused() {
        GuardedCalls x = new GuardedCalls();
        int[] wrong = {-1, -2, 8, 9, 100, Integer.MIN_VALUE, Integer.MAX_VALUE};
        for (int what : wrong) {
            Check.due("tell(" + what + ")", x.tell(what), -1);
        }
    }

    private static void tellTellsEach() {
        GuardedCalls x = Check.with(0, 2);
        Check.due("breaker(4, 2, 3, 3)", x.breaker(4, 2, 3, 3), true);
        Check.due("limiter(50, 5, 0)", x.limiter(50, 5, 0), true);
        Check.outcomes(x, 2, 1, 1, 0);
        Check.outcomes(x, 7, 0, 1, 0);
        Check.due("use(6)", x.use(6), true);
        Check.due("tells", Check.tells(x), "0 0 0 6 5 9 0 0");
        Check.dueCall("fails", x, Check.IAE);
        Check.due("tells", Check.tells(x), "0 1 0 6 4 8 1 1");
        Check.dueCall("opens", x, Check.IAE);
        Check.due("tells", Check.tells(x), "1 0 0 6 3 7 2 2");
        Check.due("pass(3)", x.pass(3), true);
        Check.due("tells", Check.tells(x), "1 0 0 6 3 7 2 5");
        Check.dueCall("trial", x, 0);
        Check.due("tells", Check.tells(x), "2 1 1 6 2 6 3 6");
        Check.dueCall("trial", x, 0);
        Check.due("tells", Check.tells(x), "2 2 2 6 1 5 4 7");
        Check.dueCall("trial", x, 0);
        Check.due("tells", Check.tells(x), "0 0 0 6 0 4 5 8");
    }

    private static void trialsAreToldOnlyHalfOpen() {
        GuardedCalls x = Check.with(0);
        Check.due("breaker(4, 1, 0, 2)", x.breaker(4, 1, 0, 2), true);
        Check.outcomes(x, 3, 1, 0, 0);
        Check.dueCall("opens", x, Check.IAE);
        Check.due("open", x.tell(0) + " " + x.tell(2), "1 0");
        Check.dueCall("trial 1", x, Check.IAE);
        Check.due("half open", x.tell(0) + " " + x.tell(2), "2 1");
        Check.dueCall("trial 2", x, Check.IAE);
        Check.due("open", x.tell(0) + " " + x.tell(2), "1 0");
        Check.dueCall("trial 1 anew", x, 0);
        Check.due("half open", x.tell(0) + " " + x.tell(2), "2 1");
        Check.dueCall("trial 2 anew", x, 0);
        Check.due("closed", x.tell(0) + " " + x.tell(2), "0 0");
    }

    private static void tellingChangesNothing() {
        GuardedCalls x = Check.with(0, 2);
        Check.outcomes(x, 2, 1, 0, 0);
        Check.dueCall("fails", x, Check.IAE);
        Check.dueCall("opens", x, Check.IAE);
        Check.due("pass(50)", x.pass(50), true);
        for (int n = 0; n < 3; n++) {
            Check.due("tells", Check.tells(x), "1 0 0 0 0 0 2 50");
            Check.dueEvents("telling", x, "2 52 52");
            Check.due("rates", x.failing() + " " + x.sluggish(), "-1.0 -1.0");
        }
    }

    private static void eventsOutsideAreRefused() {
        GuardedCalls x = new GuardedCalls();
        int[] wrong = {-1, 0, 7, 8, Integer.MIN_VALUE, Integer.MAX_VALUE};
        for (int i : wrong) {
            Check.due("event(" + i + ") of none", x.event(i), -1);
        }
        Check.dueCall("one event", x, 0);
        Check.due("event(0)", x.event(0), 51);
        Check.due("event(1)", x.event(1), -1);
        Check.due("event(-1)", x.event(-1), -1);
    }

    private static void lastEightEventsAreKept() {
        GuardedCalls x = new GuardedCalls();
        java.util.LinkedList<Integer> last = new java.util.LinkedList<>();
        for (int n = 0; n < 30; n++) {
            int way = n * n % 7 % 3;
            Check.outcomes(x, 1, way, 0, 0);
            Check.call(x);
            last.addFirst(51 + way);
            if (last.size() > 8) {
                last.removeLast();
            }
            for (int i = -1; i < 12; i++) {
                Check.due("event(" + i + ") after " + (n + 1), x.event(i),
                        i >= 0 && i < last.size() ? last.get(i) : -1);
            }
        }
        int[] wrong = {-1, -8, 8, 9, 16, Integer.MIN_VALUE, Integer.MAX_VALUE};
        for (int i : wrong) {
            Check.due("event(" + i + ") of eight", x.event(i), -1);
        }
    }

    private static void everyEventIsSeen() {
        GuardedCalls x = Check.with(0);
        Check.outcomes(x, 1, 1, 0, 0);
        Check.outcomes(x, 1, 2, 0, 0);
        Check.dueCall("52", x, Check.IAE);
        Check.dueCall("53, 2", x, Check.UOE);
        Check.dueCall("1", x, Check.ISE);
        Check.due("pass(10)", x.pass(10), true);
        Check.dueCall("3, 51", x, 0);
        Check.dueCall("51, 4", x, 0);
        Check.dueEvents("breaker", x, "4 51 51 3 1 2 53 52");

        x = Check.with(1, 2, 3);
        Check.due("limiter(4, 1, 2)", x.limiter(4, 1, 2), true);
        Check.due("retry(2, 2)", x.retry(2, 2), true);
        Check.due("backoff(3.0, 1.0, 3.0)", x.backoff(3.0, 1.0, 3.0), true);
        Check.due("bulkhead(0)", x.bulkhead(0), true);
        Check.dueCall("11, 31, 22, 11, 32", x, Check.IOOBE);
        Check.dueCall("21", x, Check.NSEE);
        Check.dueEvents("limiter, bulkhead, retry", x, "21 32 11 22 31 11");

        x = Check.with(4);
        Check.outcomes(x, 1, 0, 11, 0);
        Check.dueCall("41", x, Check.AE);
        Check.dueEvents("timer", x, "41");
    }
}
