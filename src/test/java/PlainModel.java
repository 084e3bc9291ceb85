import java.util.ArrayDeque;
import java.util.ArrayList;
import java.util.Deque;
import java.util.List;
import java.util.NoSuchElementException;

/**
 * The document once more, written with real exceptions and the library's collections, and apart
 * from the class: what the class answers in long runs is compared with this.
 */
final class PlainModel {
    private int clock = 0;
    private Integer deadline = null;
    private final List<Integer> stack = new ArrayList<>();
    private final List<Integer> log = new ArrayList<>();
    private final Deque<int[]> row = new ArrayDeque<>();
    private int supplied = 0;

    private int size = 4;
    private int least = 2;
    private int wait = 10;
    private int trials = 2;
    private int slow = 5;
    private double failures = 50.0;
    private double sluggish = 100.0;
    private int state = 0;
    private int opened = 0;
    private int letIn = 0;
    private final Deque<boolean[]> window = new ArrayDeque<>();

    private int capacity = 2;
    private int used = 0;
    private int period = 10;
    private int limit = 2;
    private int patience = 5;
    private int cycle = 0;
    private int left = 2;
    private int attempts = 3;
    private int again = 16;
    private double first = 1.0;
    private double times = 2.0;
    private double most = 8.0;
    private int span = 10;

    boolean breaker(int size, int least, int wait, int trials) {
        if (size < 1 || size > 8 || least < 1 || least > size || wait < 0 || wait > 100 || trials < 1 || trials > 4) {
            return false;
        }
        this.size = size;
        this.least = least;
        this.wait = wait;
        this.trials = trials;
        state = 0;
        window.clear();
        return true;
    }

    boolean trips(double failures, double sluggish, int slow) {
        boolean fine = failures > 0.0 && failures <= 100.0 && sluggish > 0.0 && sluggish <= 100.0;
        if (!fine || slow < 0 || slow > 100) {
            return false;
        }
        this.failures = failures;
        this.sluggish = sluggish;
        this.slow = slow;
        return true;
    }

    boolean bulkhead(int capacity) {
        if (capacity < 0 || capacity > 5) {
            return false;
        }
        this.capacity = capacity;
        return true;
    }

    boolean use(int n) {
        long then = (long) used + n;
        if (then < 0 || then > 9) {
            return false;
        }
        used = (int) then;
        return true;
    }

    boolean limiter(int period, int limit, int patience) {
        if (period < 1 || period > 50 || limit < 1 || limit > 5 || patience < 0 || patience > 100) {
            return false;
        }
        this.period = period;
        this.limit = limit;
        this.patience = patience;
        cycle = clock / period;
        left = limit;
        return true;
    }

    boolean retry(int attempts, int again) {
        if (attempts < 1 || attempts > 5 || again < 0 || again > 63) {
            return false;
        }
        this.attempts = attempts;
        this.again = again;
        return true;
    }

    boolean backoff(double first, double times, double most) {
        boolean fine = first >= 0.0 && first <= 50.0 && times >= 0.5 && times <= 4.0 && most >= 0.0 && most <= 100.0;
        if (fine) {
            this.first = first;
            this.times = times;
            this.most = most;
        }
        return fine;
    }

    boolean timer(int span) {
        if (span < 0 || span > 100) {
            return false;
        }
        this.span = span;
        return true;
    }

    int lay(int kind) {
        if (kind < 0 || kind > 4 || stack.contains(kind)) {
            return -1;
        }
        stack.add(kind);
        return stack.size();
    }

    int strip() {
        int were = stack.size();
        stack.clear();
        return were;
    }

    boolean outcome(int way, int latency, int value) {
        if (way < 0 || way > 2 || latency < 0 || latency > 50 || row.size() == 20) {
            return false;
        }
        row.addLast(new int[] {way, latency, value});
        return true;
    }

    boolean pass(int n) {
        if (n < 0 || n > 100) {
            return false;
        }
        clock += n;
        return true;
    }

    int call() {
        return in(stack.size() - 1);
    }

    double failing() {
        return rate(0);
    }

    double sluggish() {
        return rate(1);
    }

    int tell(int what) {
        int[] all = {state, window.size(), state == 2 ? letIn : 0, used, left, row.size(), supplied, clock};
        return what < 0 || what >= all.length ? -1 : all[what];
    }

    int event(int i) {
        return i < 0 || i > 7 || i >= log.size() ? -1 : log.get(log.size() - 1 - i);
    }

    private int in(int at) {
        if (at < 0) {
            return supply();
        }
        switch (stack.get(at)) {
            case 0: return breaking(at);
            case 1: return holding(at);
            case 2: return limiting(at);
            case 3: return retrying(at);
            default: return timing(at);
        }
    }

    private void spend(int ticks) {
        if (deadline != null && clock + ticks > deadline) {
            clock = deadline;
            log.add(41);
            throw new ArithmeticException();
        }
        clock += ticks;
    }

    private int supply() {
        supplied++;
        int[] outcome = row.isEmpty() ? new int[3] : row.removeFirst();
        spend(outcome[1]);
        log.add(51 + outcome[0]);
        if (outcome[0] == 1) {
            throw new IllegalArgumentException();
        }
        if (outcome[0] == 2) {
            throw new UnsupportedOperationException();
        }
        return outcome[2];
    }

    private int breaking(int at) {
        if (state == 1) {
            if (clock - opened < wait) {
                log.add(1);
                throw new IllegalStateException();
            }
            state = 2;
            letIn = 0;
            log.add(3);
        }
        if (state == 2) {
            if (letIn == trials) {
                log.add(1);
                throw new IllegalStateException();
            }
            letIn++;
        }
        int begun = clock;
        boolean failed = true;
        try {
            int answer = in(at - 1);
            failed = false;
            return answer;
        } finally {
            window.addLast(new boolean[] {failed, clock - begun >= slow});
            if (window.size() > size) {
                window.removeFirst();
            }
            judge();
        }
    }

    private void judge() {
        boolean trips = rate(0) >= failures || rate(1) >= sluggish;
        if (state == 0 && window.size() >= least && trips || state == 2 && window.size() == trials && trips) {
            state = 1;
            opened = clock;
            window.clear();
            log.add(2);
        } else if (state == 2 && window.size() == trials) {
            state = 0;
            window.clear();
            log.add(4);
        }
    }

    private double rate(int column) {
        int marked = 0;
        for (boolean[] call : window) {
            marked += call[column] ? 1 : 0;
        }
        return window.isEmpty() ? -1.0 : 100.0 * marked / window.size();
    }

    private int holding(int at) {
        if (used >= capacity) {
            log.add(11);
            throw new IndexOutOfBoundsException();
        }
        used++;
        try {
            return in(at - 1);
        } finally {
            used--;
        }
    }

    private int limiting(int at) {
        if (clock / period > cycle) {
            cycle = clock / period;
            left = limit;
        }
        if (left == 0) {
            int ticks = period - clock % period;
            log.add(ticks > patience ? 21 : 22);
            if (ticks > patience) {
                throw new NoSuchElementException();
            }
            spend(ticks);
            cycle = clock / period;
            left = limit;
        }
        left--;
        return in(at - 1);
    }

    private int retrying(int at) {
        double ticks = first;
        for (int attempt = 1; ; attempt++) {
            try {
                return in(at - 1);
            } catch (RuntimeException e) {
                if ((bit(e) & again) == 0) {
                    throw e;
                }
                log.add(attempt == attempts ? 32 : 31);
                if (attempt == attempts) {
                    throw e;
                }
            }
            spend((int) Math.floor(Math.min(ticks, most)));
            ticks *= times;
        }
    }

    private static int bit(RuntimeException e) {
        List<Class<?>> all = List.of(IllegalStateException.class, IndexOutOfBoundsException.class,
                NoSuchElementException.class, ArithmeticException.class, IllegalArgumentException.class,
                UnsupportedOperationException.class);
        int place = all.indexOf(e.getClass());
        if (place < 0) {
            throw new AssertionError("the model itself is broken", e);
        }
        return 1 << place;
    }

    private int timing(int at) {
        deadline = clock + span;
        try {
            return in(at - 1);
        } finally {
            deadline = null;
        }
    }
}
