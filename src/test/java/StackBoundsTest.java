import java.util.ArrayList;
import java.util.List;

/** The stack's boundary cases, a test for each sentence of the document that names one. */
public final class StackBoundsTest {
    public static void main(String[] args) {
        noSuchKind();
        eachKindAtMostOnce();
        everyOrderCanBeLaid();
        lastOneIsOutermost();
        stripTellsHowManyThereWere();
        strippedKindsCanBeLaidAgain();
        Check.finish();
    }

    /** Promise 10, "-1, refused, if there is no such kind": on an empty stack and on others. */
    private static void noSuchKind() {
        int[] none = {Integer.MIN_VALUE, -5, -1, 5, 6, 8, 256, 65536, Integer.MAX_VALUE};
        for (int laid = 0; laid <= 5; laid++) {
            for (int kind : none) {
                GuardedCalls x = new GuardedCalls();
                for (int i = 0; i < laid; i++) {
                    Check.due("lay", x.lay(i), i + 1);
                }
                Check.due("lay(" + kind + ") on " + laid, x.lay(kind), -1);
                Check.due("strip()", x.strip(), laid);
            }
        }
    }

    /** "each of its kind at most once", and promise 10, "or it lies there": with each of the 32 sets of kinds. */
    private static void eachKindAtMostOnce() {
        for (int set = 0; set < 32; set++) {
            for (int kind = 0; kind < 5; kind++) {
                GuardedCalls x = new GuardedCalls();
                for (int i = 4; i >= 0; i--) {
                    if ((set >> i & 1) == 1) {
                        x.lay(i);
                    }
                }
                boolean lies = (set >> kind & 1) == 1;
                int were = Integer.bitCount(set);
                Check.due("lay(" + kind + ") on " + set, x.lay(kind), lies ? -1 : were + 1);
                Check.due("again", x.lay(kind), -1);
                Check.due("strip()", x.strip(), lies ? were : were + 1);
            }
        }
    }

    /** Promise 10, "Lays a policy on: how many there are then": 1 to 5, in each order. */
    private static void everyOrderCanBeLaid() {
        for (int[] order : orders()) {
            GuardedCalls x = Check.with(order);
            for (int kind = 0; kind < 5; kind++) {
                Check.due("full", x.lay(kind), -1);
            }
            Check.dueCall("all around", x, 0);
            Check.due("strip()", x.strip(), 5);
        }
    }

    /** "the last one that was laid on is the outermost": of three that refuse, in each order of all five. */
    private static void lastOneIsOutermost() {
        String[] refusals = {Check.ISE, Check.IOOBE, Check.NSEE};
        for (int[] order : orders()) {
            GuardedCalls x = refusing();
            int outermost = -1;
            for (int kind : order) {
                x.lay(kind);
                outermost = kind < 3 ? kind : outermost;
            }
            Check.dueCall("outermost " + outermost, x, refusals[outermost]);
            Check.due("the others were not asked", x.event(0) + " " + x.event(1),
                    new int[] {1, 11, 21}[outermost] + " 51");
        }
    }

    /** An empty stack, an open breaker, a full bulkhead, a limiter without permits, a retry that does not try again. */
    private static GuardedCalls refusing() {
        GuardedCalls x = Check.with(2, 0);
        Check.due("retry(5, 0)", x.retry(5, 0), true);
        Check.due("breaker(1, 1, 100, 1)", x.breaker(1, 1, 100, 1), true);
        Check.due("limiter(50, 1, 0)", x.limiter(50, 1, 0), true);
        Check.outcomes(x, 1, 1, 0, 0);
        Check.dueCall("opens, and takes the permit", x, Check.IAE);
        Check.due("bulkhead(0)", x.bulkhead(0), true);
        Check.due("strip()", x.strip(), 2);
        Check.dueCall("nothing refuses on an empty stack", x, 0);
        return x;
    }

    /** Promise 11, "The stack is empty: how many there were": 0 to 5, and 0 the second time. */
    private static void stripTellsHowManyThereWere() {
        for (int laid = 0; laid <= 5; laid++) {
            GuardedCalls x = new GuardedCalls();
            for (int kind = 0; kind < laid; kind++) {
                Check.due("lay", x.lay(kind), kind + 1);
            }
            Check.due("strip()", x.strip(), laid);
            Check.due("strip() again", x.strip(), 0);
            Check.due("bulkhead(0)", x.bulkhead(0), true);
            Check.dueCall("nothing refuses", x, 0);
        }
    }

    /** The same: nothing lies there any more, and the order may be another. */
    private static void strippedKindsCanBeLaidAgain() {
        GuardedCalls x = new GuardedCalls();
        for (int round = 0; round < 6; round++) {
            for (int i = 0; i < 5; i++) {
                Check.due("round " + round, x.lay((i + round) % 5), i + 1);
            }
            Check.due("strip()", x.strip(), 5);
        }
        Check.due("lay(3)", x.lay(3), 1);
        Check.outcomes(x, 1, 1, 0, 0);
        Check.dueCall("the retry alone", x, 0);
    }

    /** All 120 orders of the five kinds. */
    private static List<int[]> orders() {
        List<int[]> orders = new ArrayList<>();
        addOrders(orders, new int[5], 0, 0);
        return orders;
    }

    private static void addOrders(List<int[]> orders, int[] begun, int length, int taken) {
        if (length == 5) {
            orders.add(begun.clone());
        }
        for (int kind = 0; length < 5 && kind < 5; kind++) {
            if ((taken >> kind & 1) == 0) {
                begun[length] = kind;
                addOrders(orders, begun, length + 1, taken | 1 << kind);
            }
        }
    }
}
