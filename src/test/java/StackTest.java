/** Promises 10 and 11: what lies in the stack, and in which order a call goes through it. */
public final class StackTest {
    public static void main(String[] args) {
        layCounts();
        layRefusesWrongInputs();
        stripEmpties();
        lastLaidIsOutermost();
        policiesOffTheStackDoNothing();
        stripKeepsWhatWasSet();
        Check.finish();
    }

    private static void layCounts() {
        GuardedCalls x = Check.with(4, 2, 0, 3, 1);
        for (int kind = 0; kind < 5; kind++) {
            Check.due("lay(" + kind + ") again", x.lay(kind), -1);
        }
        Check.due("strip()", x.strip(), 5);
    }

    private static void layRefusesWrongInputs() {
        GuardedCalls x = new GuardedCalls();
        int[] wrong = {-1, 5, 6, Integer.MIN_VALUE, Integer.MAX_VALUE};
        for (int kind : wrong) {
            Check.due("lay(" + kind + ")", x.lay(kind), -1);
        }
        Check.due("lay(3)", x.lay(3), 1);
        Check.due("lay(3)", x.lay(3), -1);
        Check.due("lay(5)", x.lay(5), -1);
        Check.due("lay(0)", x.lay(0), 2);
        Check.due("strip()", x.strip(), 2);
    }

    private static void stripEmpties() {
        GuardedCalls x = Check.with(1);
        Check.due("bulkhead(0)", x.bulkhead(0), true);
        Check.dueCall("with it", x, Check.IOOBE);
        Check.due("strip()", x.strip(), 1);
        Check.due("strip()", x.strip(), 0);
        Check.dueCall("without it", x, 0);
        Check.due("lay(1)", x.lay(1), 1);
        Check.dueCall("with it", x, Check.IOOBE);
        Check.due("strip()", x.strip(), 1);
        Check.due("lay(4)", x.lay(4), 1);
        Check.due("lay(1)", x.lay(1), 2);
    }

    /** Of two policies that refuse, the outer one is asked first, and the inner one never. */
    private static void lastLaidIsOutermost() {
        String[] refusals = {Check.ISE, Check.IOOBE, Check.NSEE};
        for (int inner = 0; inner < 3; inner++) {
            for (int outer = 0; outer < 3; outer++) {
                if (inner != outer) {
                    GuardedCalls x = refusingAll();
                    Check.due("lay(" + inner + ")", x.lay(inner), 1);
                    Check.due("lay(" + outer + ")", x.lay(outer), 2);
                    Check.dueCall(outer + " around " + inner, x, refusals[outer]);
                    Check.due("its event", x.event(0), new int[] {1, 11, 21}[outer]);
                    Check.due("the one before", x.event(1), 51);
                }
            }
        }
        // A retry is around what it repeats.
        GuardedCalls x = Check.with(1, 3);
        Check.due("retry(3, 2)", x.retry(3, 2), true);
        Check.due("bulkhead(0)", x.bulkhead(0), true);
        Check.dueCall("retry around bulkhead", x, Check.IOOBE);
        Check.dueEvents("retry around bulkhead", x, "32 11 31 11 31 11");
        x = Check.with(3, 1);
        Check.due("retry(3, 2)", x.retry(3, 2), true);
        Check.due("bulkhead(0)", x.bulkhead(0), true);
        Check.dueCall("bulkhead around retry", x, Check.IOOBE);
        Check.dueEvents("bulkhead around retry", x, "11");
    }

    /** An empty stack, with breaker, bulkhead and limiter set up to refuse. */
    private static GuardedCalls refusingAll() {
        GuardedCalls x = Check.with(2, 0);
        Check.due("breaker(1, 1, 100, 1)", x.breaker(1, 1, 100, 1), true);
        Check.due("trips(100.0, 100.0, 0)", x.trips(100.0, 100.0, 0), true);
        Check.due("limiter(50, 1, 0)", x.limiter(50, 1, 0), true);
        Check.dueCall("slow, and the only permit", x, 0);
        Check.due("bulkhead(0)", x.bulkhead(0), true);
        Check.due("strip()", x.strip(), 2);
        Check.dueCall("empty stack", x, 0);
        return x;
    }

    private static void policiesOffTheStackDoNothing() {
        GuardedCalls x = refusingAll();
        Check.due("retry(5, 63)", x.retry(5, 63), true);
        Check.due("timer(0)", x.timer(0), true);
        Check.outcomes(x, 1, 1, 50, 0);
        Check.dueCall("fails once, uncut", x, Check.IAE);
        Check.due("clock", x.tell(7), 50);
        Check.due("event", x.event(0), 52);
        Check.due("window", x.tell(1), 0);
    }

    private static void stripKeepsWhatWasSet() {
        GuardedCalls x = Check.with(0, 1, 2, 3, 4);
        Check.outcomes(x, 2, 0, 2, 5);
        Check.dueCall("all around", x, 5);
        Check.due("use(1)", x.use(1), true);
        String before = Check.tells(x);
        Check.due("strip()", x.strip(), 5);
        Check.due("tells", Check.tells(x), before);
        Check.due("failing()", x.failing(), 0.0);
        Check.dueEvents("strip", x, "51");
    }
}
