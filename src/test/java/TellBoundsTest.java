/** The boundary cases of failing, sluggish, tell and event, and of the events that are kept. */
public final class TellBoundsTest {
    public static void main(String[] args) {
        ratesOfAnEmptyWindow();
        ratesOfNoneAndOfAll();
        otherWhatsAreNone();
        trialsAre0UnlessHalfOpen();
        usedIsToldAtItsBounds();
        leftIsToldAsItWas();
        outcomesAreToldFromNoneToFull();
        supplierCallsAreJustThose();
        eventsThatAreNotThere();
        lastEightAreKept();
        eightOfOneCall();
        waitingIsToldBeforeIt();
        refusedSettingsAreNoEvents();
        Check.finish();
    }

    /** Promises 15 and 16, "-1.0 if it has none": in each state in which the window is empty. */
    private static void ratesOfAnEmptyWindow() {
        GuardedCalls x = Check.with(0);
        dueRates("new", x, -1.0, -1.0);
        Check.outcomes(x, 4, 1, 5, 0);
        Check.dueCall("fails", x, Check.IAE);
        dueRates("one call", x, 100.0, 100.0);
        Check.due("breaker(2, 2, 0, 2)", x.breaker(2, 2, 0, 2), true);
        dueRates("set", x, -1.0, -1.0);
        Check.dueCall("fails", x, Check.IAE);
        Check.dueCall("opens", x, Check.IAE);
        dueRates("open", x, -1.0, -1.0);
        Check.dueCall("trial", x, Check.IAE);
        dueRates("half open", x, 100.0, 100.0);
        Check.due("trips(100.0, 100.0, 5)", x.trips(100.0, 100.0, 5), true);
        Check.dueCall("trial", x, 0);
        Check.due("closed", x.tell(0), 0);
        dueRates("closed", x, -1.0, -1.0);
        Check.due("strip()", x.strip(), 1);
        Check.dueCall("without the breaker", x, 0);
        dueRates("without the breaker", x, -1.0, -1.0);
    }

    /** Promises 15 and 16: 0.0 is not none, and 100.0 is the most. */
    private static void ratesOfNoneAndOfAll() {
        for (int size = 1; size <= 8; size++) {
            GuardedCalls x = Check.with(0);
            Check.due("breaker", x.breaker(size, size, 0, 1), true);
            Check.dueCall("good", x, 0);
            dueRates("one good call", x, 0.0, 0.0);
            Check.due("breaker", x.breaker(8, 8, 0, 1), true);
            Check.outcomes(x, size - 1, 2, 5, 0);
            for (int n = 1; n < size; n++) {
                Check.dueCall("failed and slow", x, Check.UOE);
                dueRates(n + " failed and slow calls", x, 100.0, 100.0);
            }
        }
    }

    private static void dueRates(String what, GuardedCalls x, double failing, double sluggish) {
        Check.due(what + ": failing()", x.failing(), failing);
        Check.due(what + ": sluggish()", x.sluggish(), sluggish);
    }

    /** Promise 17, "-1 for another what". */
    private static void otherWhatsAreNone() {
        GuardedCalls x = Check.with(0, 1, 2, 3, 4);
        Check.due("use(5)", x.use(5), true);
        Check.due("pass(6)", x.pass(6), true);
        for (int what : new int[] {Integer.MIN_VALUE, -8, -2, -1, 8, 9, 10, 256, 65536, Integer.MAX_VALUE}) {
            Check.due("tell(" + what + ")", x.tell(what), -1);
        }
        Check.due("tells", Check.tells(x), "0 0 0 5 2 0 0 6");
    }

    /** Promise 17, "2 trials let in (0 unless it is half open)": also when some were let in before. */
    private static void trialsAre0UnlessHalfOpen() {
        GuardedCalls x = Check.with(0);
        Check.due("breaker(4, 1, 0, 3)", x.breaker(4, 1, 0, 3), true);
        Check.due("closed", x.tell(0) + " " + x.tell(2), "0 0");
        for (int round = 0; round < 2; round++) {
            int way = 1 - round;
            Check.outcomes(x, 1, 1, 0, 0);
            Check.dueCall("opens", x, Check.IAE);
            Check.due("open", x.tell(0) + " " + x.tell(2), "1 0");
            Check.outcomes(x, 3, way, 0, 0);
            for (int n = 1; n <= 3; n++) {
                Check.dueCall("trial " + n, x, way == 1 ? Check.IAE : "0");
                Check.due("trials", x.tell(0) + " " + x.tell(2), n < 3 ? "2 " + n : way + " 0");
            }
            Check.due("breaker anew", x.breaker(4, 1, 0, 3), true);
        }
        Check.outcomes(x, 1, 1, 0, 0);
        Check.dueCall("opens", x, Check.IAE);
        Check.dueCall("trial", x, 0);
        Check.due("breaker anew, from half open", x.breaker(4, 1, 0, 3), true);
        Check.due("closed", x.tell(0) + " " + x.tell(2), "0 0");
    }

    /** Promise 17, "3 USED": none, and all 9; a call's own place is given back before anybody asks. */
    private static void usedIsToldAtItsBounds() {
        GuardedCalls x = Check.with(1);
        Check.due("USED", x.tell(3), 0);
        Check.dueCall("a call", x, 0);
        Check.due("USED", x.tell(3), 0);
        Check.due("use(9)", x.use(9), true);
        Check.due("USED", x.tell(3), 9);
        Check.dueCall("refused", x, Check.IOOBE);
        Check.due("USED", x.tell(3), 9);
    }

    /** Promise 17, "4 LEFT (as it was when the limiter was called last, or set)": not as it would be now. */
    private static void leftIsToldAsItWas() {
        GuardedCalls x = Check.with(2);
        Check.dueCall("first", x, 0);
        Check.dueCall("second", x, 0);
        for (int n = 0; n < 3; n++) {
            Check.due("LEFT after " + x.tell(7), x.tell(4), 0);
            Check.due("pass(10)", x.pass(10), true);
        }
        Check.dueCall("cycle 3", x, 0);
        Check.due("LEFT", x.tell(4), 1);
        Check.due("limiter(10, 5, 0)", x.limiter(10, 5, 0), true);
        Check.due("LEFT when set", x.tell(4), 5);
        Check.due("limiter(10, 1, 0)", x.limiter(10, 1, 0), true);
        Check.due("LEFT when set", x.tell(4), 1);
        Check.dueCall("the permit", x, 0);
        Check.dueCall("refused", x, Check.NSEE);
        Check.due("LEFT of a refused call", x.tell(4), 0);
        Check.due("limiter(10, 6, 0)", x.limiter(10, 6, 0), false);
        Check.due("LEFT", x.tell(4), 0);
        // What lies outside refuses, and so the limiter is not called.
        Check.due("lay(1)", x.lay(1), 2);
        Check.due("bulkhead(0)", x.bulkhead(0), true);
        Check.due("pass(10)", x.pass(10), true);
        Check.dueCall("refused outside", x, Check.IOOBE);
        Check.due("LEFT", x.tell(4), 0);
    }

    /** Promise 17, "5 outcomes left": 0 to 20 and back. */
    private static void outcomesAreToldFromNoneToFull() {
        GuardedCalls x = new GuardedCalls();
        for (int n = 0; n <= 20; n++) {
            Check.due("outcomes left", x.tell(5), n);
            Check.due("outcome", x.outcome(0, 0, 0), n < 20);
        }
        for (int n = 20; n >= 0; n--) {
            Check.due("outcomes left", x.tell(5), n);
            Check.dueCall("taken", x, 0);
        }
        Check.due("outcomes left", x.tell(5), 0);
    }

    /** Promise 17, "6 calls of the supplier so far": cut off ones too, refused ones not. */
    private static void supplierCallsAreJustThose() {
        GuardedCalls x = Check.with(3, 1, 4);
        Check.due("supplier's calls", x.tell(6), 0);
        Check.dueCall("without an outcome", x, 0);
        Check.due("supplier's calls", x.tell(6), 1);
        Check.outcomes(x, 3, 1, 0, 0);
        Check.dueCall("three attempts", x, Check.IAE);
        Check.due("supplier's calls", x.tell(6), 4);
        Check.outcomes(x, 1, 0, 50, 0);
        Check.dueCall("cut off", x, Check.AE);
        Check.due("supplier's calls", x.tell(6), 5);
        Check.due("bulkhead(0)", x.bulkhead(0), true);
        Check.dueCall("refused", x, Check.IOOBE);
        Check.due("supplier's calls", x.tell(6), 5);
    }

    /** Promise 18, "-1 if there is none": for each number of events up to more than are kept. */
    private static void eventsThatAreNotThere() {
        int[] far = {Integer.MIN_VALUE, Integer.MIN_VALUE + 1, -8, -1, 8, 9, 15, 16, 256, Integer.MAX_VALUE - 1,
            Integer.MAX_VALUE};
        GuardedCalls x = new GuardedCalls();
        for (int events = 0; events <= 18; events++) {
            for (int i : far) {
                Check.due("event(" + i + ") of " + events, x.event(i), -1);
            }
            for (int i = 0; i < 8; i++) {
                Check.due("event(" + i + ") of " + events, x.event(i), i < events ? 51 : -1);
            }
            Check.dueCall("one more event", x, 0);
        }
    }

    /** "EVENTS, of which the last 8 are kept": each event that is told stays for the 8 of which it is the oldest. */
    private static void lastEightAreKept() {
        for (int before = 0; before <= 9; before++) {
            GuardedCalls x = new GuardedCalls();
            Check.outcomes(x, before, 0, 0, 0);
            Check.outcomes(x, 1, 1, 0, 0);
            for (int n = 0; n <= before; n++) {
                Check.dueCall("up to the one that fails", x, n < before ? "0" : Check.IAE);
            }
            for (int behind = 0; behind <= 9; behind++) {
                for (int i = 0; i < 8; i++) {
                    boolean there = i <= behind + before;
                    Check.due("event(" + i + "), " + before + " before, " + behind + " behind", x.event(i),
                            i == behind ? 52 : there ? 51 : -1);
                }
                Check.dueCall("one behind it", x, 0);
            }
        }
    }

    /** The same within one call: it tells 10 events, and the first two are gone. */
    private static void eightOfOneCall() {
        GuardedCalls x = Check.with(3);
        Check.due("retry(5, 48)", x.retry(5, 48), true);
        for (int n = 0; n < 5; n++) {
            Check.outcomes(x, 1, n % 2 + 1, 0, 0);
        }
        Check.dueCall("all fail", x, Check.IAE);
        Check.dueEvents("all fail", x, "32 52 31 53 31 52 31 53");
    }

    /** "22 and 31 before the waiting": so they stand before the 41 that cuts the waiting off. */
    private static void waitingIsToldBeforeIt() {
        GuardedCalls x = Check.with(2, 4);
        Check.due("limiter(20, 1, 100)", x.limiter(20, 1, 100), true);
        Check.dueCall("the permit", x, 0);
        Check.dueCall("cut off", x, Check.AE);
        Check.dueEvents("limiter", x, "41 22 51");
        x = Check.with(3, 4);
        Check.due("backoff(20.0, 1.0, 20.0)", x.backoff(20.0, 1.0, 20.0), true);
        Check.outcomes(x, 1, 1, 0, 0);
        Check.dueCall("cut off", x, Check.AE);
        Check.dueEvents("retry", x, "41 31 52");
    }

    /** Events are told of calls: neither setting nor refusing a setting is one. */
    private static void refusedSettingsAreNoEvents() {
        GuardedCalls x = new GuardedCalls();
        for (int n = -1; n <= 1; n += 2) {
            x.breaker(n, n, n, n);
            x.trips(n, n, n);
            x.bulkhead(n);
            x.use(n);
            x.limiter(n, n, n);
            x.retry(n, n);
            x.backoff(n, n, n);
            x.timer(n);
            x.lay(n);
            x.outcome(n, n, n);
            x.pass(n);
        }
        x.strip();
        Check.dueEvents("settings", x, "");
    }
}
