import java.util.Random;
import java.util.Set;

/**
 * "An object is used for at most 512 calls after it has been made": the 512th is answered as well as
 * the first. What later calls answer is free, but they end, and throw nothing that is not call()'s.
 */
public final class LastCallsTest {
    private static final int PROMISED = 512;
    private static final Set<String> OF_CALL =
            Set.of(Check.ISE, Check.IOOBE, Check.NSEE, Check.AE, Check.IAE, Check.UOE);

    public static void main(String[] args) {
        supplierCallsUpToTheLast();
        ticksUpToTheLast();
        longestCallsUpToTheLast();
        rowUpToTheLast();
        cyclesUpToTheLast();
        breakerUpToTheLast();
        laterCallsEnd();
        Check.finish();
    }

    private static void supplierCallsUpToTheLast() {
        GuardedCalls x = Check.with(0, 1, 3, 4);
        for (int n = 5; n < PROMISED; n++) {
            Check.dueCall("call " + n, x, 0);
        }
        Check.due("supplier's calls, asked at the last", x.tell(6), PROMISED - 5);
    }

    private static void ticksUpToTheLast() {
        GuardedCalls x = new GuardedCalls();
        for (int n = 1; n < PROMISED; n++) {
            Check.due("pass(100)", x.pass(100), true);
        }
        Check.due("clock, asked at the last", x.tell(7), 100 * (PROMISED - 1));
    }

    /** Each call is refused five times, and waits 350 ticks between. */
    private static void longestCallsUpToTheLast() {
        GuardedCalls x = Check.with(1, 3);
        Check.due("bulkhead(0)", x.bulkhead(0), true);
        Check.due("retry(5, 2)", x.retry(5, 2), true);
        Check.due("backoff(50.0, 4.0, 100.0)", x.backoff(50.0, 4.0, 100.0), true);
        for (int n = 6; n < PROMISED; n++) {
            Check.dueCall("call " + n, x, Check.IOOBE);
        }
        Check.due("clock, asked at the last", x.tell(7), 350 * (PROMISED - 6));
    }

    private static void rowUpToTheLast() {
        GuardedCalls x = new GuardedCalls();
        for (int n = 0; n < PROMISED / 2; n++) {
            Check.due("outcome", x.outcome(0, n % 51, n), true);
            Check.dueCall("outcome " + n, x, n);
        }
    }

    /** The limiter has gone through far more cycles than there are calls. */
    private static void cyclesUpToTheLast() {
        GuardedCalls x = Check.with(2);
        Check.due("limiter(1, 1, 0)", x.limiter(1, 1, 0), true);
        for (int n = 3; n + 3 <= PROMISED; n += 3) {
            Check.due("pass(100)", x.pass(100), true);
            Check.dueCall("a new cycle", x, 0);
            Check.dueCall("the same cycle", x, Check.NSEE);
        }
    }

    /** Opened and half opened again and again. */
    private static void breakerUpToTheLast() {
        GuardedCalls x = Check.with(0);
        Check.due("breaker(1, 1, 100, 1)", x.breaker(1, 1, 100, 1), true);
        for (int n = 3; n + 4 <= PROMISED; n += 4) {
            Check.outcomes(x, 1, 1, 1, 0);
            Check.dueCall("let in at " + n, x, Check.IAE);
            Check.dueCall("refused at " + n, x, Check.ISE);
            Check.due("pass(100)", x.pass(100), true);
        }
    }

    private static void laterCallsEnd() {
        for (int seed = 0; seed < 10; seed++) {
            Random lots = new Random(seed);
            GuardedCalls x = Check.with(1, 0, 2, 3, 4);
            for (int n = 0; n < 40 * PROMISED; n++) {
                String answer = anyCall(x, lots);
                if (answer.startsWith("throws.") && !OF_CALL.contains(answer)) {
                    Check.due("call " + n + " of seed " + seed, answer, "one of " + OF_CALL);
                    return;
                }
            }
        }
    }

    private static String anyCall(GuardedCalls x, Random lots) {
        switch (lots.nextInt(14)) {
            case 0: return "" + x.breaker(1 + lots.nextInt(8), 1, lots.nextInt(101), 1 + lots.nextInt(4));
            case 1: return "" + x.limiter(1 + lots.nextInt(50), 1 + lots.nextInt(5), lots.nextInt(101));
            case 2: return "" + x.retry(1 + lots.nextInt(5), lots.nextInt(64));
            case 3: return "" + x.timer(lots.nextInt(101));
            case 4: return "" + x.use(lots.nextInt());
            case 5: return "" + x.tell(lots.nextInt(10)) + x.event(lots.nextInt(10));
            case 6: return "" + x.failing() + x.sluggish();
            case 7: return "" + x.pass(lots.nextInt(101));
            case 8: return "" + x.lay(lots.nextInt(5));
            case 9: return lots.nextInt(20) == 0 ? "" + x.strip() : "";
            case 10: return "" + x.outcome(lots.nextInt(3), lots.nextInt(51), lots.nextInt());
            default: return Check.call(x);
        }
    }
}
