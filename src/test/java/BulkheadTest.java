/** Promises 4 and 5, and what the bulkhead does with a call. */
public final class BulkheadTest {
    public static void main(String[] args) {
        bulkheadRefusesWrongInputs();
        everyCapacityHolds();
        useKeepsItsBounds();
        usedOnlyWhileItLasts();
        refusalGoesNoFurther();
        Check.finish();
    }

    private static void bulkheadRefusesWrongInputs() {
        GuardedCalls x = Check.with(1);
        int[] wrong = {-1, 6, 7, Integer.MIN_VALUE, Integer.MAX_VALUE};
        for (int capacity : wrong) {
            Check.due("bulkhead(" + capacity + ")", x.bulkhead(capacity), false);
        }
        Check.due("use(1)", x.use(1), true);
        Check.dueCall("CAPACITY is still 2", x, 0);
        Check.due("use(1)", x.use(1), true);
        Check.dueCall("CAPACITY is still 2", x, Check.IOOBE);
    }

    private static void everyCapacityHolds() {
        for (int capacity = 0; capacity <= 5; capacity++) {
            GuardedCalls x = Check.with(1);
            Check.due("bulkhead(" + capacity + ")", x.bulkhead(capacity), true);
            for (int used = 0; used <= 9; used++) {
                Check.due("USED", x.tell(3), used);
                Check.dueCall(used + " of " + capacity, x, used < capacity ? "0" : Check.IOOBE);
                Check.due("use(1)", x.use(1), used < 9);
            }
        }
    }

    private static void useKeepsItsBounds() {
        GuardedCalls x = new GuardedCalls();
        Check.due("use(-1)", x.use(-1), false);
        Check.due("use(10)", x.use(10), false);
        Check.due("use(0)", x.use(0), true);
        Check.due("use(9)", x.use(9), true);
        Check.due("use(0)", x.use(0), true);
        int[] wrong = {1, -10, Integer.MAX_VALUE, Integer.MIN_VALUE, Integer.MIN_VALUE + 1};
        for (int n : wrong) {
            Check.due("use(" + n + ")", x.use(n), false);
            Check.due("USED", x.tell(3), 9);
        }
        Check.due("use(-4)", x.use(-4), true);
        Check.due("USED", x.tell(3), 5);
        Check.due("use(-6)", x.use(-6), false);
        Check.due("use(5)", x.use(5), false);
        Check.due("USED", x.tell(3), 5);
        Check.due("use(-5)", x.use(-5), true);
        Check.due("USED", x.tell(3), 0);
        Check.due("use(MAX)", x.use(Integer.MAX_VALUE), false);
        Check.due("use(MIN)", x.use(Integer.MIN_VALUE), false);
        Check.dueEvents("none of use", x, "");
    }

    private static void usedOnlyWhileItLasts() {
        GuardedCalls x = Check.with(1, 3);
        Check.due("bulkhead(1)", x.bulkhead(1), true);
        Check.outcomes(x, 2, 1, 2, 0);
        Check.outcomes(x, 1, 0, 2, 6);
        Check.dueCall("each attempt finds the place free", x, 6);
        Check.due("USED", x.tell(3), 0);
        Check.dueCall("and the next call", x, 0);
    }

    private static void refusalGoesNoFurther() {
        GuardedCalls x = Check.with(1);
        Check.outcomes(x, 1, 0, 3, 4);
        Check.due("use(3)", x.use(3), true);
        Check.dueCall("more than CAPACITY", x, Check.IOOBE);
        Check.due("tells", Check.tells(x), "0 0 0 3 2 1 0 0");
        Check.dueEvents("refused", x, "11");
        Check.due("use(-2)", x.use(-2), true);
        Check.dueCall("one place free", x, 4);
    }
}
