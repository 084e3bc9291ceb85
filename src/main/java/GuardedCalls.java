import java.util.NoSuchElementException;

/**
 * Calls of a supplier through policies laid around one another. Inside, a call comes back as a
 * number (ANSWERED, or the bit of an exception), so that every policy can look at it; only
 * {@link #call()} turns that number into a real exception.
 */
public final class GuardedCalls {
    private static final int BREAKER = 0;
    private static final int BULKHEAD = 1;
    private static final int LIMITER = 2;
    private static final int RETRY = 3;
    private static final int TIMER = 4;
    private static final int KINDS = 5;

    private static final int ANSWERED = 0;
    private static final int ILLEGAL_STATE = 1;
    private static final int INDEX_OUT_OF_BOUNDS = 2;
    private static final int NO_SUCH_ELEMENT = 4;
    private static final int ARITHMETIC = 8;
    private static final int ILLEGAL_ARGUMENT = 16;
    private static final int UNSUPPORTED_OPERATION = 32;
    private static final int ALL_EXCEPTIONS = 63;

    private static final int BREAKER_REFUSED = 1;
    private static final int BREAKER_OPENED = 2;
    private static final int BREAKER_HALF_OPENED = 3;
    private static final int BREAKER_CLOSED = 4;
    private static final int BULKHEAD_REFUSED = 11;
    private static final int LIMITER_REFUSED = 21;
    private static final int LIMITER_MADE_WAIT = 22;
    private static final int RETRY_WAITS = 31;
    private static final int LAST_ATTEMPT_FAILED = 32;
    private static final int CUT_OFF = 41;
    private static final int SUPPLIER_ANSWERED = 51;
    private static final int SUPPLIER_FAILED_FIRST_WAY = 52;
    private static final int SUPPLIER_FAILED_SECOND_WAY = 53;

    /** Far above what the clock can reach in 512 calls. */
    private static final int NO_DEADLINE = 2147483647;

    private final Events events;
    private final Clock clock;
    private final Supplier supplier;
    private final Breaker breaker;
    private final Limiter limiter;
    private final Retry retry;
    private final int[] stack;
    private int laid;
    private int capacity;
    private int used;
    private int span;

    public GuardedCalls() {
        events = new Events();
        clock = new Clock(events);
        supplier = new Supplier(clock, events);
        breaker = new Breaker(clock, events);
        limiter = new Limiter(clock, events);
        retry = new Retry();
        stack = new int[KINDS];
        laid = 0;
        capacity = 2;
        used = 0;
        span = 10;
    }

    public boolean breaker(int size, int least, int wait, int trials) {
        if (!isWithin(size, 1, 8) || !isWithin(least, 1, size)
                || !isWithin(wait, 0, 100) || !isWithin(trials, 1, 4)) {
            return false;
        }
        breaker.size = size;
        breaker.least = least;
        breaker.rest = wait;
        breaker.trials = trials;
        breaker.state = Breaker.CLOSED;
        breaker.emptyWindow();
        return true;
    }

    public boolean trips(double failures, double sluggish, int slow) {
        if (!isRate(failures) || !isRate(sluggish) || !isWithin(slow, 0, 100)) {
            return false;
        }
        breaker.failures = failures;
        breaker.sluggishness = sluggish;
        breaker.slow = slow;
        return true;
    }

    public boolean bulkhead(int capacity) {
        if (!isWithin(capacity, 0, 5)) {
            return false;
        }
        this.capacity = capacity;
        return true;
    }

    public boolean use(int n) {
        if (!isWithin(n, -used, 9 - used)) {
            return false;
        }
        used += n;
        return true;
    }

    public boolean limiter(int period, int limit, int patience) {
        if (!isWithin(period, 1, 50) || !isWithin(limit, 1, 5) || !isWithin(patience, 0, 100)) {
            return false;
        }
        limiter.period = period;
        limiter.limit = limit;
        limiter.patience = patience;
        limiter.beginCycle();
        return true;
    }

    public boolean retry(int attempts, int again) {
        if (!isWithin(attempts, 1, 5) || !isWithin(again, 0, ALL_EXCEPTIONS)) {
            return false;
        }
        retry.attempts = attempts;
        retry.again = again;
        return true;
    }

    public boolean backoff(double first, double times, double most) {
        if (!isBetween(first, 0.0, 50.0) || !isBetween(times, 0.5, 4.0)
                || !isBetween(most, 0.0, 100.0)) {
            return false;
        }
        retry.first = first;
        retry.times = times;
        retry.most = most;
        return true;
    }

    public boolean timer(int span) {
        if (!isWithin(span, 0, 100)) {
            return false;
        }
        this.span = span;
        return true;
    }

    public int lay(int kind) {
        if (!isWithin(kind, 0, KINDS - 1) || lies(kind) || laid >= KINDS) {
            return -1;
        }
        stack[laid] = kind;
        laid++;
        return laid;
    }

    public int strip() {
        int were = laid;
        laid = 0;
        return were;
    }

    public boolean outcome(int way, int latency, int value) {
        if (!isWithin(way, 0, 2) || !isWithin(latency, 0, 50)) {
            return false;
        }
        return supplier.append(way, latency, value);
    }

    public boolean pass(int n) {
        if (!isWithin(n, 0, 100)) {
            return false;
        }
        return clock.lapse(n, NO_DEADLINE);
    }

    public int call() throws IllegalStateException, IndexOutOfBoundsException,
            NoSuchElementException, ArithmeticException, IllegalArgumentException,
            UnsupportedOperationException {
        switch (goIn(laid, NO_DEADLINE)) {
            case ILLEGAL_STATE:
                throw new IllegalStateException("the breaker refused");
            case INDEX_OUT_OF_BOUNDS:
                throw new IndexOutOfBoundsException("the bulkhead refused");
            case NO_SUCH_ELEMENT:
                throw new NoSuchElementException("the limiter refused");
            case ARITHMETIC:
                throw new ArithmeticException("cut off by the deadline");
            case ILLEGAL_ARGUMENT:
                throw new IllegalArgumentException("the supplier failed in the first way");
            case UNSUPPORTED_OPERATION:
                throw new UnsupportedOperationException("the supplier failed in the second way");
            default:
                return supplier.answer;
        }
    }

    public double failing() {
        return breaker.rate(breaker.failedCalls);
    }

    public double sluggish() {
        return breaker.rate(breaker.slowCalls);
    }

    public int tell(int what) {
        switch (what) {
            case 0:
                return breaker.state;
            case 1:
                return breaker.calls;
            case 2:
                return breaker.state == Breaker.HALF_OPEN ? breaker.letIn : 0;
            case 3:
                return used;
            case 4:
                return limiter.left;
            case 5:
                return supplier.waiting;
            case 6:
                return supplier.calls;
            case 7:
                return clock.now;
            default:
                return -1;
        }
    }

    public int event(int i) {
        return events.latest(i);
    }

    private boolean lies(int kind) {
        for (int i = 0; i < laid && i < KINDS; i++) {
            if (stack[i] == kind) {
                return true;
            }
        }
        return false;
    }

    /** Sends a call through the policies of the given level and below; level 0 is the supplier. */
    private int goIn(int level, int deadline) {
        if (level < 1 || level > KINDS) {
            return supplier.supply(deadline);
        }
        switch (stack[level - 1]) {
            case BREAKER:
                return goThroughBreaker(level, deadline);
            case BULKHEAD:
                return goThroughBulkhead(level, deadline);
            case LIMITER:
                return goThroughLimiter(level, deadline);
            case RETRY:
                return goThroughRetry(level, deadline);
            case TIMER:
            default:
                return goThroughTimer(level);
        }
    }

    private int goThroughBreaker(int level, int deadline) {
        if (!breaker.letsIn()) {
            return ILLEGAL_STATE;
        }
        int start = clock.now;
        int came = goIn(level - 1, deadline);
        breaker.learn(came != ANSWERED, clock.now - start);
        return came;
    }

    private int goThroughBulkhead(int level, int deadline) {
        if (used >= capacity) {
            events.add(BULKHEAD_REFUSED);
            return INDEX_OUT_OF_BOUNDS;
        }
        // The call's own place is not counted: nobody can look at USED before it is free again.
        return goIn(level - 1, deadline);
    }

    private int goThroughLimiter(int level, int deadline) {
        int refusal = limiter.takePermit(deadline);
        return refusal == ANSWERED ? goIn(level - 1, deadline) : refusal;
    }

    private int goThroughRetry(int level, int deadline) {
        for (int attempt = 1; attempt < retry.attempts; attempt++) {
            int came = goIn(level - 1, deadline);
            if (!retry.isAgain(came)) {
                return came;
            }
            events.add(RETRY_WAITS);
            // What the waiting throws goes out, even if it is in the set AGAIN.
            if (!clock.lapse(retry.ticksAfter(attempt), deadline)) {
                return ARITHMETIC;
            }
        }
        int came = goIn(level - 1, deadline);
        if (retry.isAgain(came)) {
            events.add(LAST_ATTEMPT_FAILED);
        }
        return came;
    }

    /** No deadline comes from further out, because a stack has one timer at most. */
    private int goThroughTimer(int level) {
        return goIn(level - 1, clock.now + span);
    }

    private static boolean isWithin(int value, int least, int most) {
        return value >= least && value <= most;
    }

    /** False for a NaN too. */
    private static boolean isBetween(double value, double least, double most) {
        return value >= least && value <= most;
    }

    /** False for a NaN too. */
    private static boolean isRate(double value) {
        return value > 0.0 && value <= 100.0;
    }

    /** The last events, in a ring. */
    private static final class Events {
        private static final int ROOM = 8;

        private final int[] ring;
        private int next;
        private int kept;

        Events() {
            ring = new int[ROOM];
            next = 0;
            kept = 0;
        }

        void add(int event) {
            ring[next] = event;
            next = (next + 1) % ROOM;
            if (kept < ROOM) {
                kept++;
            }
        }

        int latest(int i) {
            if (i < 0 || i >= kept) {
                return -1;
            }
            return ring[(next + ROOM - 1 - i) % ROOM];
        }
    }

    private static final class Clock {
        private final Events events;
        private int now;

        Clock(Events events) {
            this.events = events;
            now = 0;
        }

        /** Lets ticks pass; false if the deadline cut them off. */
        boolean lapse(int ticks, int deadline) {
            // The remaining time is compared, because now + ticks could run over.
            if (ticks > deadline - now) {
                now = deadline;
                events.add(CUT_OFF);
                return false;
            }
            now += ticks;
            return true;
        }
    }

    /** The row of outcomes, in a ring. */
    private static final class Supplier {
        private static final int ROOM = 20;

        private final Clock clock;
        private final Events events;
        private final int[] ways;
        private final int[] latencies;
        private final int[] values;
        private int first;
        private int waiting;
        private int calls;
        private int answer;

        Supplier(Clock clock, Events events) {
            this.clock = clock;
            this.events = events;
            ways = new int[ROOM];
            latencies = new int[ROOM];
            values = new int[ROOM];
            first = 0;
            waiting = 0;
            calls = 0;
            answer = 0;
        }

        boolean append(int way, int latency, int value) {
            if (waiting >= ROOM) {
                return false;
            }
            int place = (first + waiting) % ROOM;
            ways[place] = way;
            latencies[place] = latency;
            values[place] = value;
            waiting++;
            return true;
        }

        int supply(int deadline) {
            calls++;
            if (waiting < 1) {
                return succeed(0);
            }
            int place = first;
            first = (first + 1) % ROOM;
            waiting--;
            if (!clock.lapse(latencies[place], deadline)) {
                return ARITHMETIC;
            }
            switch (ways[place]) {
                case 1:
                    events.add(SUPPLIER_FAILED_FIRST_WAY);
                    return ILLEGAL_ARGUMENT;
                case 2:
                    events.add(SUPPLIER_FAILED_SECOND_WAY);
                    return UNSUPPORTED_OPERATION;
                default:
                    return succeed(values[place]);
            }
        }

        private int succeed(int value) {
            answer = value;
            events.add(SUPPLIER_ANSWERED);
            return ANSWERED;
        }
    }

    /** The window's calls are bits, the latest one lowest: a set bit is a failed or a slow call. */
    private static final class Breaker {
        private static final int CLOSED = 0;
        private static final int OPEN = 1;
        private static final int HALF_OPEN = 2;

        private final Clock clock;
        private final Events events;
        private int size;
        private int least;
        private int rest;
        private int trials;
        private double failures;
        private double sluggishness;
        private int slow;
        private int state;
        private int openedAt;
        private int letIn;
        private int calls;
        private int failedCalls;
        private int slowCalls;

        Breaker(Clock clock, Events events) {
            this.clock = clock;
            this.events = events;
            size = 4;
            least = 2;
            rest = 10;
            trials = 2;
            failures = 50.0;
            sluggishness = 100.0;
            slow = 5;
            state = CLOSED;
            openedAt = 0;
            letIn = 0;
            calls = 0;
            failedCalls = 0;
            slowCalls = 0;
        }

        void emptyWindow() {
            calls = 0;
            failedCalls = 0;
            slowCalls = 0;
        }

        boolean letsIn() {
            if (state == OPEN && clock.now - openedAt >= rest) {
                halfOpen();
            }
            if (state == OPEN || state == HALF_OPEN && letIn >= trials) {
                events.add(BREAKER_REFUSED);
                return false;
            }
            if (state == HALF_OPEN) {
                letIn++;
            }
            return true;
        }

        void learn(boolean failed, int ticks) {
            remember(failed, ticks >= slow);
            if (state == HALF_OPEN) {
                decideTrials();
            } else if (calls >= least && isTripped()) {
                open();
            }
        }

        double rate(int marked) {
            return calls < 1 ? -1.0 : 100.0 * Integer.bitCount(marked) / calls;
        }

        private void remember(boolean failed, boolean tardy) {
            int room = (1 << size) - 1;
            failedCalls = (failedCalls << 1 | (failed ? 1 : 0)) & room;
            slowCalls = (slowCalls << 1 | (tardy ? 1 : 0)) & room;
            if (calls < size) {
                calls++;
            }
        }

        /** With TRIALS above SIZE the window never has TRIALS calls, and nothing is decided. */
        private void decideTrials() {
            if (calls < trials) {
                return;
            }
            if (isTripped()) {
                open();
            } else {
                close();
            }
        }

        private boolean isTripped() {
            return rate(failedCalls) >= failures || rate(slowCalls) >= sluggishness;
        }

        private void open() {
            state = OPEN;
            openedAt = clock.now;
            emptyWindow();
            events.add(BREAKER_OPENED);
        }

        private void halfOpen() {
            state = HALF_OPEN;
            letIn = 0;
            emptyWindow();
            events.add(BREAKER_HALF_OPENED);
        }

        private void close() {
            state = CLOSED;
            emptyWindow();
            events.add(BREAKER_CLOSED);
        }
    }

    private static final class Limiter {
        private final Clock clock;
        private final Events events;
        private int period;
        private int limit;
        private int patience;
        private int cycle;
        private int left;

        Limiter(Clock clock, Events events) {
            this.clock = clock;
            this.events = events;
            period = 10;
            limit = 2;
            patience = 5;
            cycle = 0;
            left = 2;
        }

        void beginCycle() {
            cycle = cycleNow();
            left = limit;
        }

        /** ANSWERED if there was a permit, or the bit of the exception that came instead. */
        int takePermit(int deadline) {
            if (cycleNow() > cycle) {
                beginCycle();
            }
            if (left < 1) {
                int ticks = (cycle + 1) * period - clock.now;
                if (ticks > patience) {
                    events.add(LIMITER_REFUSED);
                    return NO_SUCH_ELEMENT;
                }
                events.add(LIMITER_MADE_WAIT);
                if (!clock.lapse(ticks, deadline)) {
                    return ARITHMETIC;
                }
                beginCycle();
            }
            left--;
            return ANSWERED;
        }

        private int cycleNow() {
            return period < 1 ? 0 : clock.now / period;
        }
    }

    private static final class Retry {
        private int attempts;
        private int again;
        private double first;
        private double times;
        private double most;

        Retry() {
            attempts = 3;
            again = ILLEGAL_ARGUMENT;
            first = 1.0;
            times = 2.0;
            most = 8.0;
        }

        boolean isAgain(int came) {
            return (came & again) != 0;
        }

        int ticksAfter(int attempt) {
            double ticks = first;
            for (int before = 1; before < attempt; before++) {
                ticks = ticks * times;
            }
            return (int) (most < ticks ? most : ticks);
        }
    }
}
