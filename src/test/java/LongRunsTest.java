import java.util.Random;

/** Long runs by lot (the same ones each time), compared with the plain model call by call. */
public final class LongRunsTest {
    private static final int RUNS = 3000;
    /** Of the 512 calls that are promised; the look at the whole state in the end takes 22 more. */
    private static final int CALLS = 488;
    private static final int[] ODD_INTS = {-1, Integer.MIN_VALUE, Integer.MAX_VALUE, 101, 64, 51, 9, 6, 5};
    private static final double[] ODD_DOUBLES = {Double.NaN, Double.POSITIVE_INFINITY, Double.NEGATIVE_INFINITY,
        0.0, -0.0, -0.5, 0.25, 4.5, 50.0, 50.5, 100.0, 100.5, Double.MIN_VALUE};

    private final Random lots;
    private final GuardedCalls x = new GuardedCalls();
    private final PlainModel model = new PlainModel();
    private String said = "";
    private int made = 0;

    private LongRunsTest(int seed) {
        lots = new Random(seed);
    }

    public static void main(String[] args) {
        for (int seed = 0; seed < RUNS; seed++) {
            if (!new LongRunsTest(seed).agrees(seed)) {
                System.out.println("1 answer is not as due");
                System.exit(1);
            }
        }
        System.out.println(RUNS + " runs agree");
    }

    private boolean agrees(int seed) {
        while (made < CALLS) {
            if (!step()) {
                System.out.println("run " + seed + ", call " + made + ": " + said);
                return false;
            }
        }
        if (!wholeState()) {
            System.out.println("run " + seed + ", at its end: " + said);
            return false;
        }
        return true;
    }

    /** Makes one call on both; false if they do not agree. */
    private boolean step() {
        int pick = lots.nextInt(130);
        if (pick < 40) {
            return same("call()", Check.call(x), modelCall());
        }
        if (pick < 62) {
            int way = lots.nextInt(40) == 0 ? odd() : lots.nextInt(3);
            int latency = number(0, lots.nextBoolean() ? 3 : 50);
            int value = lots.nextInt();
            return same("outcome(" + way + ", " + latency + ", " + value + ")", x.outcome(way, latency, value),
                    model.outcome(way, latency, value));
        }
        if (pick < 72) {
            int n = number(0, lots.nextBoolean() ? 6 : 100);
            return same("pass(" + n + ")", x.pass(n), model.pass(n));
        }
        if (pick < 80) {
            int kind = number(0, 4);
            return same("lay(" + kind + ")", x.lay(kind), model.lay(kind));
        }
        if (pick == 80) {
            return same("strip()", x.strip(), model.strip());
        }
        return pick < 100 ? configure(pick) : ask(pick);
    }

    private boolean ask(int pick) {
        if (pick < 114) {
            return tell(lots.nextInt(10) - 1);
        }
        if (pick < 126) {
            return event(lots.nextInt(10) - 1);
        }
        return rates();
    }

    private boolean tell(int what) {
        return same("tell(" + what + ")", x.tell(what), model.tell(what));
    }

    private boolean event(int i) {
        return same("event(" + i + ")", x.event(i), model.event(i));
    }

    private boolean rates() {
        return same("failing()", x.failing(), model.failing())
                && same("sluggish()", x.sluggish(), model.sluggish());
    }

    private boolean configure(int pick) {
        if (pick < 84) {
            int size = number(1, 8);
            int least = number(1, lots.nextInt(4) == 0 ? 8 : Math.max(1, Math.min(size, 8)));
            int wait = number(0, lots.nextBoolean() ? 8 : 100);
            int trials = number(1, 4);
            return same("breaker(" + size + ", " + least + ", " + wait + ", " + trials + ")",
                    x.breaker(size, least, wait, trials), model.breaker(size, least, wait, trials));
        }
        if (pick < 87) {
            double failures = real(1, 100);
            double sluggish = real(1, 100);
            int slow = number(0, lots.nextBoolean() ? 6 : 100);
            return same("trips(" + failures + ", " + sluggish + ", " + slow + ")",
                    x.trips(failures, sluggish, slow), model.trips(failures, sluggish, slow));
        }
        if (pick < 89) {
            int capacity = number(0, 5);
            return same("bulkhead(" + capacity + ")", x.bulkhead(capacity), model.bulkhead(capacity));
        }
        if (pick < 91) {
            int n = number(-4, 3);
            return same("use(" + n + ")", x.use(n), model.use(n));
        }
        if (pick < 93) {
            int period = number(1, lots.nextBoolean() ? 8 : 50);
            int limit = number(1, 5);
            int patience = number(0, lots.nextBoolean() ? 8 : 100);
            return same("limiter(" + period + ", " + limit + ", " + patience + ")",
                    x.limiter(period, limit, patience), model.limiter(period, limit, patience));
        }
        if (pick < 96) {
            int attempts = number(1, 5);
            int again = number(0, 63);
            return same("retry(" + attempts + ", " + again + ")", x.retry(attempts, again),
                    model.retry(attempts, again));
        }
        if (pick < 98) {
            double first = real(0, lots.nextBoolean() ? 4 : 50);
            double times = lots.nextInt(20) == 0 ? oddReal() : 0.5 + lots.nextInt(15) / 4.0;
            double most = real(0, lots.nextBoolean() ? 9 : 100);
            return same("backoff(" + first + ", " + times + ", " + most + ")", x.backoff(first, times, most),
                    model.backoff(first, times, most));
        }
        int span = number(0, lots.nextBoolean() ? 12 : 100);
        return same("timer(" + span + ")", x.timer(span), model.timer(span));
    }

    private boolean wholeState() {
        for (int i = -1; i <= 8; i++) {
            if (!tell(i) || !event(i)) {
                return false;
            }
        }
        return rates();
    }

    private String modelCall() {
        try {
            return String.valueOf(model.call());
        } catch (RuntimeException e) {
            return "throws." + e.getClass().getSimpleName();
        }
    }

    private boolean same(String call, Object got, Object want) {
        made++;
        said = call + " answered " + got + ", due is " + want;
        return got.equals(want);
    }

    private int number(int least, int most) {
        return lots.nextInt(30) == 0 ? odd() : least + lots.nextInt(most - least + 1);
    }

    private int odd() {
        return ODD_INTS[lots.nextInt(ODD_INTS.length)];
    }

    private double real(int least, int most) {
        return lots.nextInt(20) == 0 ? oddReal() : least + lots.nextInt((most - least) * 8 + 1) / 8.0;
    }

    private double oddReal() {
        return ODD_DOUBLES[lots.nextInt(ODD_DOUBLES.length)];
    }
}
