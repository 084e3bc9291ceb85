import java.util.LinkedList;

/** The breaker's boundary cases, a test for each sentence of the document that names one. */
public final class BreakerBoundsTest {
    public static void main(String[] args) {
        closedAtFirst();
        halfOpenFromWaitOn();
        refusedWhileOpenChangesNothing();
        refusedBehindAllTrials();
        trialsAreCountedOneByOne();
        failedIfAnExceptionCameBack();
        slowFromSlowTicksOn();
        windowKeepsTheLastSize();
        judgedFromLeastOn();
        opensNow();
        windowIsEmptyBehindTheOpening();
        trialsDecideWhenAllAreThere();
        opensNowBehindTheTrials();
        halfOpenBeginsWithAnEmptyWindow();
        tripsAtFailures();
        tripsAtSluggish();
        failuresAreNotSluggishness();
        settingClosesFromEveryState();
        Check.finish();
    }

    /** "CLOSED (at first)": without WAIT ticks gone by, a call is let in. */
    private static void closedAtFirst() {
        GuardedCalls x = Check.with(0);
        Check.due("state", x.tell(0), 0);
        Check.dueCall("first", x, 0);
        Check.dueEvents("neither refused nor half open", x, "51");
    }

    /** "Open: if the clock is at least WAIT ticks behind the tick when it opened, it is half open, with no trials". */
    private static void halfOpenFromWaitOn() {
        for (int opening : new int[] {0, 1, 37}) {
            for (int wait : new int[] {0, 1, 2, 50, 99, 100}) {
                for (int gone = Math.max(0, wait - 1); gone <= wait + 1; gone++) {
                    GuardedCalls x = openAt(opening, wait, 2);
                    Check.pass(x, gone);
                    Check.due("open until it is called", x.tell(0), 1);
                    String what = gone + " of " + wait + " gone since " + opening;
                    Check.dueCall(what, x, gone >= wait ? "0" : Check.ISE);
                    Check.due(what + ": state and trials", x.tell(0) + " " + x.tell(2), gone >= wait ? "2 1" : "1 0");
                    Check.dueEvents(what, x, gone >= wait ? "51 3 2 52" : "1 2 52");
                }
            }
        }
    }

    /** "else it throws IllegalStateException": and goes no further, however often. */
    private static void refusedWhileOpenChangesNothing() {
        GuardedCalls x = openAt(4, 3, 1);
        Check.outcomes(x, 1, 0, 1, 8);
        for (int n = 1; n <= 10; n++) {
            Check.dueCall("refused " + n, x, Check.ISE);
            Check.due("tells", Check.tells(x), "1 0 0 0 2 1 1 4");
        }
        // The refused calls did not put off the end of the waiting.
        Check.pass(x, 2);
        Check.dueCall("2 of 3 gone", x, Check.ISE);
        Check.pass(x, 1);
        Check.dueCall("3 of 3 gone", x, 8);
    }

    /** "Half open: if TRIALS trials were let in, it throws IllegalStateException": where the window can't hold them. */
    private static void refusedBehindAllTrials() {
        for (int trials = 2; trials <= 4; trials++) {
            for (int size = 1; size < trials; size++) {
                GuardedCalls x = Check.with(0);
                Check.due("breaker", x.breaker(size, 1, 0, trials), true);
                Check.outcomes(x, 1, 1, 0, 0);
                Check.dueCall("opens", x, Check.IAE);
                for (int n = 1; n <= trials; n++) {
                    Check.dueCall("trial " + n + " of " + trials, x, 0);
                    Check.due("window and trials", x.tell(1) + " " + x.tell(2), Math.min(n, size) + " " + n);
                }
                Check.outcomes(x, 1, 0, 1, 5);
                Check.dueCall("one more", x, Check.ISE);
                Check.due("tells", Check.tells(x), "2 " + size + " " + trials + " 0 2 1 " + (trials + 1) + " 0");
                Check.due("refused", x.event(0), 1);
            }
        }
    }

    /** "else this is one more": as many as TRIALS, and the last one decides. */
    private static void trialsAreCountedOneByOne() {
        for (int trials = 1; trials <= 4; trials++) {
            GuardedCalls x = openAt(0, 0, trials);
            for (int n = 1; n < trials; n++) {
                Check.dueCall("trial", x, 0);
                Check.due("trials let in", x.tell(0) + " " + x.tell(2), "2 " + n);
            }
            Check.dueCall("the last trial", x, 0);
            Check.due("closed", x.tell(0) + " " + x.tell(2), "0 0");
        }
    }

    /** "it FAILED if an exception came back": each that can come from further in, and none if an answer came. */
    private static void failedIfAnExceptionCameBack() {
        dueFailed("first way", failingInside(3, 1, 0), Check.IAE);
        dueFailed("second way", failingInside(3, 2, 0), Check.UOE);
        dueFailed("cut off inside", failingInside(4, 0, 11), Check.AE);
        GuardedCalls x = failingInside(1, 0, 0);
        Check.due("bulkhead(0)", x.bulkhead(0), true);
        dueFailed("bulkhead inside", x, Check.IOOBE);
        x = failingInside(2, 0, 0);
        Check.due("limiter(50, 1, 0)", x.limiter(50, 1, 0), true);
        Check.dueCall("the permit", x, 0);
        Check.due("an answer did not fail", x.failing(), 0.0);
        Check.due("breaker anew", x.breaker(8, 8, 0, 1), true);
        dueFailed("limiter inside", x, Check.NSEE);
        // The deadline of a timer further out cuts the call off inside as well.
        x = Check.with(0, 4);
        Check.due("breaker", x.breaker(8, 8, 0, 1), true);
        Check.outcomes(x, 1, 0, 11, 0);
        dueFailed("cut off from outside", x, Check.AE);
        // An exception that the retry inside did away with did not come back.
        x = failingInside(3, 1, 0);
        Check.due("retry(2, 16)", x.retry(2, 16), true);
        Check.dueCall("second attempt", x, 0);
        Check.due("it did not fail", x.failing(), 0.0);
    }

    /** A breaker around one other policy (a retry makes one attempt), and one outcome. */
    private static GuardedCalls failingInside(int kind, int way, int latency) {
        GuardedCalls x = Check.with(kind, 0);
        Check.due("breaker", x.breaker(8, 8, 0, 1), true);
        Check.due("retry", x.retry(1, 16), true);
        Check.outcomes(x, 1, way, latency, 0);
        return x;
    }

    private static void dueFailed(String what, GuardedCalls x, String exception) {
        Check.dueCall(what, x, exception);
        Check.due(what + ": window and rate", x.tell(1) + " " + x.failing(), "1 100.0");
    }

    /** "was SLOW if it took at least SLOW ticks". */
    private static void slowFromSlowTicksOn() {
        for (int slow : new int[] {0, 1, 2, 49, 50, 51, 99, 100}) {
            for (int ticks = Math.max(0, slow - 1); ticks <= slow + 1; ticks++) {
                GuardedCalls x = Check.with(3, 0);
                Check.pass(x, 13);
                Check.due("breaker", x.breaker(2, 2, 0, 1), true);
                Check.due("trips", x.trips(100.0, 100.0, slow), true);
                lasting(x, ticks);
                Check.dueCall(ticks + " ticks", x, 6);
                Check.due("clock", x.tell(7), 13 + ticks);
                Check.due(ticks + " ticks, SLOW " + slow, x.sluggish(), ticks >= slow ? 100.0 : 0.0);
            }
        }
        // A call that fails can be slow, too.
        GuardedCalls x = Check.with(0);
        Check.outcomes(x, 1, 2, 5, 0);
        Check.dueCall("failed and slow", x, Check.UOE);
        Check.due("rates", x.failing() + " " + x.sluggish(), "100.0 100.0");
    }

    /** Outcomes that make a call through the retry last so long: latency, waiting, latency. */
    private static void lasting(GuardedCalls x, int ticks) {
        int first = Math.min(ticks, 50);
        int waiting = Math.min(ticks - first, 25);
        Check.due("backoff", x.backoff(waiting, 1.0, 100.0), true);
        Check.outcomes(x, 1, 1, first, 0);
        Check.outcomes(x, 1, 0, ticks - first - waiting, 6);
    }

    /** "its window, which keeps the last SIZE calls": not full, just full, and run over many times. */
    private static void windowKeepsTheLastSize() {
        // 1 fails, 2 is slow; neither stands beside itself, so that a full window never trips at 100.0.
        int[] sorts = {1, 0, 2, 0, 0, 1, 2, 1, 0, 2, 0};
        for (int size = 2; size <= 8; size++) {
            GuardedCalls x = Check.with(0);
            Check.due("breaker", x.breaker(size, size, 0, 1), true);
            Check.due("trips", x.trips(100.0, 100.0, 1), true);
            LinkedList<Integer> last = new LinkedList<>();
            for (int n = 0; n < 40; n++) {
                int sort = sorts[n % sorts.length];
                Check.outcomes(x, 1, sort == 1 ? 1 : 0, sort == 2 ? 1 : 0, 0);
                Check.dueCall("sort " + sort, x, sort == 1 ? Check.IAE : "0");
                last.addLast(sort);
                if (last.size() > size) {
                    last.removeFirst();
                }
                String what = "window of " + size + " after " + (n + 1);
                Check.due(what, x.tell(1), last.size());
                Check.due(what + ": failing", x.failing(), share(last, 1));
                Check.due(what + ": sluggish", x.sluggish(), share(last, 2));
            }
        }
    }

    private static double share(LinkedList<Integer> last, int sort) {
        int some = 0;
        for (int one : last) {
            some += one == sort ? 1 : 0;
        }
        return 100.0 * some / last.size();
    }

    /** "if the window has at least LEAST calls, and it TRIPS, the breaker opens": for each LEAST and SIZE. */
    private static void judgedFromLeastOn() {
        for (int size = 1; size <= 8; size++) {
            for (int least = 1; least <= size; least++) {
                GuardedCalls x = Check.with(0);
                Check.due("breaker", x.breaker(size, least, 100, 1), true);
                Check.outcomes(x, least, 1, 0, 0);
                for (int n = 1; n <= least; n++) {
                    Check.due("closed with " + (n - 1) + " of " + least, x.tell(0), 0);
                    Check.dueCall("fails", x, Check.IAE);
                }
                Check.due("open with " + least + ", SIZE " + size, x.tell(0), 1);
            }
        }
        // Above LEAST it is judged at every call: three of six are the first 50.0.
        GuardedCalls x = Check.with(0);
        Check.due("breaker(8, 1, 100, 1)", x.breaker(8, 1, 100, 1), true);
        Check.outcomes(x, 3, 0, 0, 0);
        Check.outcomes(x, 3, 1, 0, 0);
        for (int n = 1; n <= 6; n++) {
            Check.due("closed before call " + n, x.tell(0), 0);
            Check.dueCall("call " + n, x, n <= 3 ? "0" : Check.IAE);
        }
        Check.due("open with 6 of 8", x.tell(0), 1);
    }

    /** "the breaker opens (now)": at the tick when the call ended, not when it began. */
    private static void opensNow() {
        for (int latency : new int[] {0, 1, 50}) {
            GuardedCalls x = Check.with(0);
            Check.pass(x, 3);
            Check.due("breaker(1, 1, 20, 1)", x.breaker(1, 1, 20, 1), true);
            Check.outcomes(x, 1, 1, latency, 0);
            Check.dueCall("opens", x, Check.IAE);
            Check.pass(x, 19);
            Check.dueCall("19 behind the end", x, Check.ISE);
            Check.pass(x, 1);
            Check.dueCall("20 behind the end", x, 0);
            Check.due("clock", x.tell(7), 3 + latency + 20);
        }
    }

    /** "and the window is empty": when it has opened. */
    private static void windowIsEmptyBehindTheOpening() {
        for (int size = 1; size <= 8; size++) {
            GuardedCalls x = Check.with(0);
            Check.due("breaker", x.breaker(size, size, 0, 1), true);
            Check.outcomes(x, size, 2, 5, 0);
            for (int n = 0; n < size; n++) {
                Check.dueCall("fails", x, Check.UOE);
            }
            dueEmpty("opened with SIZE " + size, x, 1);
        }
    }

    private static void dueEmpty(String what, GuardedCalls x, int state) {
        Check.due(what, x.tell(0) + " " + x.tell(1) + " " + x.failing() + " " + x.sluggish(), state + " 0 -1.0 -1.0");
    }

    /** "when that has TRIALS calls, the breaker opens (now) if it trips, else it is closed; the window is empty in both cases". */
    private static void trialsDecideWhenAllAreThere() {
        for (int trials = 1; trials <= 4; trials++) {
            for (int size = trials; size <= 8; size++) {
                for (int failed = 0; failed <= trials; failed++) {
                    dueDecision(trials, size, 1, failed);
                    dueDecision(trials, size, size, failed);
                }
            }
        }
    }

    private static void dueDecision(int trials, int size, int least, int failed) {
        GuardedCalls x = Check.with(0);
        Check.due("breaker", x.breaker(size, least, 0, trials), true);
        Check.outcomes(x, least + failed, 1, 0, 0);
        for (int n = 0; n < least; n++) {
            Check.dueCall("fails", x, Check.IAE);
        }
        for (int n = 1; n <= trials; n++) {
            Check.dueCall("trial " + n, x, n <= failed ? Check.IAE : "0");
            if (n < trials) {
                Check.due("undecided", x.tell(0) + " " + x.tell(1) + " " + x.tell(2), "2 " + n + " " + n);
                Check.due("failing", x.failing(), 100.0 * Math.min(n, failed) / n);
            }
        }
        boolean trips = 2 * failed >= trials;
        dueEmpty(failed + " of " + trials + " trials failed, SIZE " + size + ", LEAST " + least, x, trips ? 1 : 0);
        Check.due("event", x.event(0), trips ? 2 : 4);
    }

    /** "the breaker opens (now)": the trials' opening is counted anew, from the last trial's end. */
    private static void opensNowBehindTheTrials() {
        GuardedCalls x = openAt(0, 10, 2);
        Check.pass(x, 10);
        Check.outcomes(x, 2, 1, 7, 0);
        Check.dueCall("trial 1", x, Check.IAE);
        Check.dueCall("trial 2", x, Check.IAE);
        Check.due("open at 24", x.tell(0) + " " + x.tell(7), "1 24");
        Check.pass(x, 9);
        Check.dueCall("9 behind", x, Check.ISE);
        Check.pass(x, 1);
        Check.dueCall("10 behind", x, 0);
    }

    /** "It becomes half open with an empty window": the first trial is alone in it, time and again. */
    private static void halfOpenBeginsWithAnEmptyWindow() {
        GuardedCalls x = openAt(0, 0, 2);
        for (int round = 0; round < 5; round++) {
            Check.outcomes(x, 1, 0, 1, 0);
            Check.outcomes(x, 1, 1, 1, 0);
            Check.dueCall("trial 1", x, 0);
            Check.due("alone", x.tell(0) + " " + x.tell(1) + " " + x.tell(2) + " " + x.failing(), "2 1 1 0.0");
            Check.dueCall("trial 2", x, Check.IAE);
            dueEmpty("open again", x, 1);
        }
    }

    /** "the RATE of failed calls in the window, 100.0 * failed / all, is at least FAILURES": each rate there is. */
    private static void tripsAtFailures() {
        for (int all = 1; all <= 8; all++) {
            for (int failed = 1; failed <= all; failed++) {
                double rate = 100.0 * failed / all;
                dueTripped(all, failed, 1, 0, rate, 100.0, true);
                dueTripped(all, failed, 1, 0, Math.nextDown(rate), 100.0, true);
                if (failed < all) {
                    dueTripped(all, failed, 1, 0, Math.nextUp(rate), 100.0, false);
                }
            }
            dueTripped(all, 0, 1, 0, Double.MIN_VALUE, 100.0, false);
        }
    }

    /** "or that of slow ones at least SLUGGISH". */
    private static void tripsAtSluggish() {
        for (int all = 1; all <= 8; all++) {
            for (int slow = 1; slow <= all; slow++) {
                double rate = 100.0 * slow / all;
                dueTripped(all, slow, 0, 9, 100.0, rate, true);
                dueTripped(all, slow, 0, 9, 100.0, Math.nextDown(rate), true);
                if (slow < all) {
                    dueTripped(all, slow, 0, 9, 100.0, Math.nextUp(rate), false);
                }
            }
            dueTripped(all, 0, 0, 9, 100.0, Double.MIN_VALUE, false);
        }
    }

    /** Some of all the calls are of that way and latency, the others answer at once; it is judged at the last. */
    private static void dueTripped(int all, int some, int way, int latency, double failures, double sluggish,
            boolean want) {
        GuardedCalls x = Check.with(0);
        Check.due("breaker", x.breaker(all, all, 0, 1), true);
        Check.due("trips", x.trips(failures, sluggish, 9), true);
        Check.outcomes(x, some, way, latency, 0);
        for (int n = 1; n <= all; n++) {
            Check.due("closed before " + n, x.tell(0), 0);
            Check.dueCall("call " + n, x, way == 1 && n <= some ? Check.IAE : "0");
        }
        Check.due(some + " of " + all + " with " + failures + ", " + sluggish, x.tell(0), want ? 1 : 0);
    }

    /** Failed calls do not count as slow ones, nor slow ones as failed. */
    private static void failuresAreNotSluggishness() {
        dueTripped(4, 3, 1, 0, 100.0, 1.0, false);
        dueTripped(4, 3, 0, 9, 1.0, 100.0, false);
    }

    /** Promise 2, "it is closed, and the window is empty": from closed, open, half open, and with all trials used. */
    private static void settingClosesFromEveryState() {
        GuardedCalls closed = Check.with(0);
        Check.dueCall("closed", closed, 0);
        GuardedCalls open = openAt(0, 100, 2);
        GuardedCalls half = openAt(0, 0, 2);
        Check.dueCall("half open", half, 0);
        GuardedCalls stuck = openAt(0, 0, 3);
        Check.due("breaker(2, 1, 0, 3)", stuck.breaker(2, 1, 0, 3), true);
        Check.outcomes(stuck, 1, 1, 0, 0);
        Check.dueCall("opens", stuck, Check.IAE);
        for (int n = 0; n < 3; n++) {
            Check.dueCall("trial", stuck, 0);
        }
        Check.dueCall("stuck", stuck, Check.ISE);
        for (GuardedCalls x : new GuardedCalls[] {closed, open, half, stuck}) {
            Check.due("breaker(3, 3, 0, 1)", x.breaker(3, 3, 0, 1), true);
            dueEmpty("set anew", x, 0);
            Check.due("trials", x.tell(2), 0);
            Check.dueCall("let in", x, 0);
            Check.due("closed, one call", x.tell(0) + " " + x.tell(1) + " " + x.failing(), "0 1 0.0");
        }
    }

    /** An object whose breaker opened at that tick; its window has room for every trial. */
    private static GuardedCalls openAt(int tick, int wait, int trials) {
        GuardedCalls x = Check.with(0);
        Check.pass(x, tick);
        Check.due("breaker", x.breaker(4, 1, wait, trials), true);
        Check.outcomes(x, 1, 1, 0, 0);
        Check.dueCall("opens", x, Check.IAE);
        return x;
    }
}
