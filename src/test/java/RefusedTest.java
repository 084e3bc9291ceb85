import java.util.ArrayList;
import java.util.List;
import java.util.Random;
import java.util.function.Predicate;

/**
 * "A call of configuration that is refused changes nothing": twins, of which one makes the refused
 * call and the other does not, go on to answer alike. What is refused differs in all its other
 * arguments from what is set, so that a change by halves would be seen.
 */
public final class RefusedTest {
    private static final int STATES = 7;
    private static final int SEEDS = 40;
    /** With what the states take, the twins stay below the 512 calls that are promised. */
    private static final int STEPS = 55;

    private final String name;
    private final Predicate<GuardedCalls> refusal;

    private RefusedTest(String name, Predicate<GuardedCalls> refusal) {
        this.name = name;
        this.refusal = refusal;
    }

    public static void main(String[] args) {
        for (RefusedTest refused : all()) {
            for (int state = 0; state < STATES; state++) {
                refused.changesNothing(state);
            }
        }
        fullOnesAreRefused();
        Check.finish();
    }

    private static List<RefusedTest> all() {
        List<RefusedTest> all = new ArrayList<>();
        ofTheBreaker(all);
        ofTheOtherPolicies(all);
        ofTheRest(all);
        return all;
    }

    private static void ofTheBreaker(List<RefusedTest> all) {
        all.add(new RefusedTest("breaker: SIZE too small", x -> !x.breaker(0, 1, 1, 1)));
        all.add(new RefusedTest("breaker: SIZE too large", x -> !x.breaker(9, 1, 1, 1)));
        all.add(new RefusedTest("breaker: LEAST too small", x -> !x.breaker(7, 0, 1, 1)));
        all.add(new RefusedTest("breaker: LEAST above SIZE", x -> !x.breaker(1, 2, 1, 1)));
        all.add(new RefusedTest("breaker: WAIT too small", x -> !x.breaker(1, 1, -1, 1)));
        all.add(new RefusedTest("breaker: WAIT too large", x -> !x.breaker(7, 7, 101, 1)));
        all.add(new RefusedTest("breaker: TRIALS too small", x -> !x.breaker(1, 1, 1, 0)));
        all.add(new RefusedTest("breaker: TRIALS too large", x -> !x.breaker(7, 7, 1, 5)));
        all.add(new RefusedTest("trips: FAILURES too small", x -> !x.trips(0.0, 1.0, 1)));
        all.add(new RefusedTest("trips: FAILURES too large", x -> !x.trips(100.5, 1.0, 1)));
        all.add(new RefusedTest("trips: FAILURES no number", x -> !x.trips(Double.NaN, 1.0, 1)));
        all.add(new RefusedTest("trips: SLUGGISH too small", x -> !x.trips(1.0, 0.0, 1)));
        all.add(new RefusedTest("trips: SLUGGISH too large", x -> !x.trips(100.0, 100.5, 1)));
        all.add(new RefusedTest("trips: SLUGGISH no number", x -> !x.trips(100.0, Double.NaN, 1)));
        all.add(new RefusedTest("trips: SLOW too small", x -> !x.trips(1.0, 1.0, -1)));
        all.add(new RefusedTest("trips: SLOW too large", x -> !x.trips(100.0, 1.0, 101)));
    }

    private static void ofTheOtherPolicies(List<RefusedTest> all) {
        all.add(new RefusedTest("bulkhead: CAPACITY too small", x -> !x.bulkhead(-1)));
        all.add(new RefusedTest("bulkhead: CAPACITY too large", x -> !x.bulkhead(6)));
        all.add(new RefusedTest("use: USED below 0", x -> !x.use(-10)));
        all.add(new RefusedTest("use: USED above 9", x -> !x.use(10)));
        all.add(new RefusedTest("use: the largest", x -> !x.use(Integer.MAX_VALUE)));
        all.add(new RefusedTest("use: the smallest", x -> !x.use(Integer.MIN_VALUE)));
        all.add(new RefusedTest("limiter: PERIOD too small", x -> !x.limiter(0, 5, 50)));
        all.add(new RefusedTest("limiter: PERIOD too large", x -> !x.limiter(51, 5, 50)));
        all.add(new RefusedTest("limiter: LIMIT too small", x -> !x.limiter(3, 0, 50)));
        all.add(new RefusedTest("limiter: LIMIT too large", x -> !x.limiter(3, 6, 50)));
        all.add(new RefusedTest("limiter: PATIENCE too small", x -> !x.limiter(3, 5, -1)));
        all.add(new RefusedTest("limiter: PATIENCE too large", x -> !x.limiter(3, 5, 101)));
        all.add(new RefusedTest("retry: ATTEMPTS too small", x -> !x.retry(0, 63)));
        all.add(new RefusedTest("retry: ATTEMPTS too large", x -> !x.retry(6, 63)));
        all.add(new RefusedTest("retry: AGAIN too small", x -> !x.retry(5, -1)));
        all.add(new RefusedTest("retry: AGAIN too large", x -> !x.retry(5, 64)));
        all.add(new RefusedTest("backoff: FIRST too small", x -> !x.backoff(-0.5, 4.0, 100.0)));
        all.add(new RefusedTest("backoff: FIRST too large", x -> !x.backoff(50.5, 4.0, 100.0)));
        all.add(new RefusedTest("backoff: FIRST no number", x -> !x.backoff(Double.NaN, 4.0, 100.0)));
        all.add(new RefusedTest("backoff: TIMES too small", x -> !x.backoff(7.0, 0.25, 100.0)));
        all.add(new RefusedTest("backoff: TIMES too large", x -> !x.backoff(7.0, 4.5, 100.0)));
        all.add(new RefusedTest("backoff: TIMES no number", x -> !x.backoff(7.0, Double.NaN, 100.0)));
        all.add(new RefusedTest("backoff: MOST too small", x -> !x.backoff(7.0, 4.0, -0.5)));
        all.add(new RefusedTest("backoff: MOST too large", x -> !x.backoff(7.0, 4.0, 100.5)));
        all.add(new RefusedTest("backoff: MOST no number", x -> !x.backoff(7.0, 4.0, Double.NaN)));
        all.add(new RefusedTest("timer: SPAN too small", x -> !x.timer(-1)));
        all.add(new RefusedTest("timer: SPAN too large", x -> !x.timer(101)));
    }

    private static void ofTheRest(List<RefusedTest> all) {
        all.add(new RefusedTest("lay: no such kind below", x -> x.lay(-1) == -1));
        all.add(new RefusedTest("lay: no such kind above", x -> x.lay(5) == -1));
        all.add(new RefusedTest("outcome: way too small", x -> !x.outcome(-1, 3, 99)));
        all.add(new RefusedTest("outcome: way too large", x -> !x.outcome(3, 3, 99)));
        all.add(new RefusedTest("outcome: latency too small", x -> !x.outcome(1, -1, 99)));
        all.add(new RefusedTest("outcome: latency too large", x -> !x.outcome(1, 51, 99)));
        all.add(new RefusedTest("pass: too small", x -> !x.pass(-1)));
        all.add(new RefusedTest("pass: too large", x -> !x.pass(101)));
    }

    /** What is refused only because something is full, or lies there. */
    private static void fullOnesAreRefused() {
        for (int kind = 0; kind < 5; kind++) {
            int lying = kind;
            new RefusedTest("lay: " + kind + " lies there", x -> x.lay(lying) == -1).changesNothing(1);
        }
        for (int way = 0; way < 3; way++) {
            int more = way;
            new RefusedTest("outcome: the row is full", x -> !x.outcome(more, 1, 99)).changesNothing(6);
        }
        new RefusedTest("use: all 9 are used", x -> !x.use(1)).changesNothing(2);
        new RefusedTest("use: none is used", x -> !x.use(-1)).changesNothing(0);
    }

    private void changesNothing(int state) {
        for (int seed = 0; seed < SEEDS; seed++) {
            GuardedCalls twin = inState(state);
            String before = story(twin, seed);
            GuardedCalls x = inState(state);
            boolean refused = refusal.test(x);
            if (!refused || !story(x, seed).equals(before)) {
                Check.due(name + ", state " + state + ", seed " + seed + ": refused and nothing changed", false, true);
                return;
            }
        }
        Check.due(name, true, true);
    }

    private static GuardedCalls inState(int state) {
        switch (state) {
            case 0: return new GuardedCalls();
            case 1: return laid(4, 3, 2, 1, 0);
            case 2: return crowded();
            case 3: return open();
            case 4: return halfOpen();
            case 5: return withoutPermits();
            default: return withFullRow();
        }
    }

    private static GuardedCalls laid(int... kinds) {
        GuardedCalls x = new GuardedCalls();
        for (int kind : kinds) {
            x.lay(kind);
        }
        x.breaker(5, 3, 6, 3);
        x.trips(60.0, 70.0, 4);
        x.bulkhead(3);
        x.limiter(7, 3, 4);
        x.retry(4, 17);
        x.backoff(2.5, 1.5, 4.0);
        x.timer(15);
        return x;
    }

    private static GuardedCalls crowded() {
        GuardedCalls x = laid(1, 3);
        x.use(9);
        return x;
    }

    private static GuardedCalls open() {
        GuardedCalls x = laid(0);
        for (int n = 0; n < 3; n++) {
            x.outcome(1, 1, 0);
            Check.call(x);
        }
        return x;
    }

    private static GuardedCalls halfOpen() {
        GuardedCalls x = open();
        x.pass(6);
        x.outcome(0, 5, 1);
        Check.call(x);
        return x;
    }

    private static GuardedCalls withoutPermits() {
        GuardedCalls x = laid(2);
        x.pass(8);
        for (int n = 0; n < 3; n++) {
            Check.call(x);
        }
        return x;
    }

    private static GuardedCalls withFullRow() {
        GuardedCalls x = laid(0, 3);
        for (int n = 0; n < 20; n++) {
            x.outcome(n % 3, n % 7, n);
        }
        return x;
    }

    /** All that an object answers now, and in a run by lot that sets nothing anew. */
    private static String story(GuardedCalls x, int seed) {
        StringBuilder told = new StringBuilder(look(x));
        Random lots = new Random(seed);
        for (int step = 0; step < STEPS; step++) {
            told.append(' ').append(act(x, lots)).append(' ').append(x.event(0)).append(' ').append(x.tell(1));
        }
        return told.append(look(x)).toString();
    }

    private static Object act(GuardedCalls x, Random lots) {
        int pick = lots.nextInt(20);
        if (pick < 3) {
            return x.lay(lots.nextInt(5));
        }
        if (pick < 8) {
            return x.outcome(lots.nextInt(3), lots.nextInt(8), lots.nextInt(100));
        }
        if (pick < 10) {
            return x.pass(lots.nextInt(9));
        }
        if (pick == 10) {
            return lots.nextInt(4) == 0 ? (Object) x.strip() : (Object) x.use(lots.nextInt(7) - 4);
        }
        return Check.call(x);
    }

    private static String look(GuardedCalls x) {
        return " (" + Check.tells(x) + "; " + x.failing() + " " + x.sluggish() + "; " + Check.events(x) + ")";
    }
}
