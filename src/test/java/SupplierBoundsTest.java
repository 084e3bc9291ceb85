/** The clock's, the row's and the supplier's boundary cases, a test for each sentence that names one. */
public final class SupplierBoundsTest {
    public static void main(String[] args) {
        clockIs0AtFirst();
        rowHasAtMost20();
        fullRowFromEveryPlace();
        firstOneIsTaken();
        latencyAtItsBounds();
        withoutOutcomeItAnswers0();
        emptiedRowAnswers0();
        wayAndLatencyAtTheirBounds();
        everyValueIsAnswered();
        passAtItsBounds();
        callOnAnEmptyStack();
        Check.finish();
    }

    /** "The CLOCK counts ticks, 0 at first." */
    private static void clockIs0AtFirst() {
        GuardedCalls x = new GuardedCalls();
        Check.due("clock", x.tell(7), 0);
        Check.due("pass(0)", x.pass(0), true);
        Check.due("clock", x.tell(7), 0);
        Check.due("pass(1)", x.pass(1), true);
        Check.due("clock", x.tell(7), 1);
    }

    /** "The SUPPLIER has a row of at most 20 OUTCOMES", and promise 12, "or there are 20". */
    private static void rowHasAtMost20() {
        GuardedCalls x = new GuardedCalls();
        for (int n = 1; n <= 25; n++) {
            Check.due("outcome " + n, x.outcome(0, 0, n), n <= 20);
            Check.due("outcomes left", x.tell(5), Math.min(n, 20));
        }
        for (int n = 1; n <= 21; n++) {
            Check.dueCall("taken " + n, x, n <= 20 ? n : 0);
            Check.due("outcomes left", x.tell(5), Math.max(0, 20 - n));
        }
        Check.due("room again", x.outcome(0, 0, 1), true);
    }

    /** The same, with a row that was used before: it is full and in order from wherever it begins. */
    private static void fullRowFromEveryPlace() {
        for (int before = 0; before <= 21; before++) {
            GuardedCalls x = new GuardedCalls();
            for (int n = 0; n < before; n++) {
                Check.outcomes(x, 1, 0, 1, -1);
                Check.dueCall("used before", x, -1);
            }
            for (int n = 0; n < 20; n++) {
                Check.due("outcome", x.outcome(n % 3, n, 100 + n), true);
            }
            Check.due("one more", x.outcome(0, 0, 0), false);
            for (int n = 0; n < 20; n++) {
                int tick = x.tell(7);
                Check.dueCall("outcome " + n + " behind " + before, x,
                        new Object[] {100 + n, Check.IAE, Check.UOE}[n % 3]);
                Check.due("latency", x.tell(7) - tick, n);
            }
            Check.due("outcomes left", x.tell(5), 0);
        }
    }

    /** "when it is called, the first one is taken": once for each call, also if a place is filled at once. */
    private static void firstOneIsTaken() {
        GuardedCalls x = new GuardedCalls();
        for (int n = 0; n < 20; n++) {
            Check.due("outcome", x.outcome(0, 0, n), true);
        }
        for (int n = 0; n < 45; n++) {
            Check.dueCall("the oldest", x, n);
            Check.due("one place", x.outcome(0, 0, 20 + n), true);
            Check.due("no more", x.outcome(0, 0, -1), false);
        }
        Check.due("supplier's calls", x.tell(6), 45);
    }

    /** "after its LATENCY .. it answers its value, or fails": 0 and 50 ticks, the least and the most. */
    private static void latencyAtItsBounds() {
        for (int way = 0; way <= 2; way++) {
            for (int latency : new int[] {0, 1, 49, 50}) {
                GuardedCalls x = new GuardedCalls();
                Check.due("pass(2)", x.pass(2), true);
                Check.outcomes(x, 1, way, latency, 3);
                Check.due("it takes its time only when it is called", x.tell(7), 2);
                Check.dueCall("way " + way, x, new String[] {"3", Check.IAE, Check.UOE}[way]);
                Check.due("clock", x.tell(7), 2 + latency);
                Check.dueEvents("way " + way, x, String.valueOf(51 + way));
            }
        }
    }

    /** "Without an outcome it answers 0 after no time." */
    private static void withoutOutcomeItAnswers0() {
        GuardedCalls x = new GuardedCalls();
        for (int n = 1; n <= 5; n++) {
            Check.dueCall("no outcome", x, 0);
            Check.due("tells", Check.tells(x), "0 0 0 0 2 0 " + n + " 0");
        }
        Check.dueEvents("it answered", x, "51 51 51 51 51");
    }

    /** The same: not the value, the latency or the way of the outcome that was there last. */
    private static void emptiedRowAnswers0() {
        for (int way = 0; way <= 2; way++) {
            GuardedCalls x = new GuardedCalls();
            Check.outcomes(x, 1, way, 50, 77);
            Check.call(x);
            Check.dueCall("behind way " + way, x, 0);
            Check.due("tells", Check.tells(x), "0 0 0 0 2 0 2 50");
            Check.due("it answered", x.event(0), 51);
        }
        // An outcome that failed has a value, too, but it is not answered later.
        GuardedCalls x = Check.with(3);
        Check.outcomes(x, 1, 1, 0, 77);
        Check.dueCall("second attempt", x, 0);
    }

    /** Promise 12, "False, refused, if way is not 0 .. 2, latency not 0 .. 50": each about the bounds, together. */
    private static void wayAndLatencyAtTheirBounds() {
        int[] ways = {Integer.MIN_VALUE, -3, -1, 0, 1, 2, 3, 4, 256, Integer.MAX_VALUE};
        int[] latencies = {Integer.MIN_VALUE, -50, -1, 0, 1, 49, 50, 51, 256, Integer.MAX_VALUE};
        for (int way : ways) {
            for (int latency : latencies) {
                GuardedCalls x = new GuardedCalls();
                boolean fine = way >= 0 && way <= 2 && latency >= 0 && latency <= 50;
                Check.due("outcome(" + way + ", " + latency + ", 1)", x.outcome(way, latency, 1), fine);
                Check.due("outcomes left", x.tell(5), fine ? 1 : 0);
            }
        }
    }

    /** Promise 12, "way 0 answers the value": any int, through any policy. */
    private static void everyValueIsAnswered() {
        int[] values = {Integer.MIN_VALUE, Integer.MIN_VALUE + 1, -32, -1, 0, 1, 2, 4, 8, 16, 32, 63,
            Integer.MAX_VALUE - 1, Integer.MAX_VALUE};
        for (int value : values) {
            for (int kind = -1; kind < 5; kind++) {
                GuardedCalls x = kind < 0 ? new GuardedCalls() : Check.with(kind);
                Check.due("retry(5, 63)", x.retry(5, 63), true);
                Check.outcomes(x, 1, 0, 0, value);
                Check.dueCall("value through " + kind, x, value);
                Check.due("supplier's calls", x.tell(6), 1);
            }
        }
    }

    /** Promise 13, "n ticks pass; false if n is not 0 .. 100". */
    private static void passAtItsBounds() {
        int[] all = {Integer.MIN_VALUE, -101, -100, -1, 0, 1, 99, 100, 101, 200, 256, Integer.MAX_VALUE - 7,
            Integer.MAX_VALUE};
        for (int n : all) {
            GuardedCalls x = new GuardedCalls();
            Check.due("pass(8)", x.pass(8), true);
            boolean fine = n >= 0 && n <= 100;
            Check.due("pass(" + n + ")", x.pass(n), fine);
            Check.due("clock after pass(" + n + ")", x.tell(7), fine ? 8 + n : 8);
        }
    }

    /** Promise 14, "what the supplier answered": also if no policy lies there, or all five do. */
    private static void callOnAnEmptyStack() {
        for (GuardedCalls x : new GuardedCalls[] {new GuardedCalls(), Check.with(0, 1, 2, 3, 4)}) {
            Check.outcomes(x, 1, 0, 10, 31);
            Check.dueCall("an outcome", x, 31);
            Check.dueCall("none", x, 0);
            Check.due("clock", x.tell(7), 10);
        }
    }
}
