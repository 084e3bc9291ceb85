/** The bulkhead's boundary cases, a test for each sentence of the document that names one. */
public final class BulkheadBoundsTest {
    public static void main(String[] args) {
        refusesFromCapacityOn();
        nobodyGoesIntoCapacityNone();
        refusedCallGoesNoFurther();
        placeIsFreeBehindEveryEnd();
        lowerCapacityLeavesUsed();
        usedStaysWithinItsBounds();
        usedDoesNotWrapAround();
        Check.finish();
    }

    /** "if USED is CAPACITY or more, it throws IndexOutOfBoundsException; else the call goes in". */
    private static void refusesFromCapacityOn() {
        for (int capacity = 0; capacity <= 5; capacity++) {
            for (int used = 0; used <= 9; used++) {
                GuardedCalls x = using(capacity, used);
                Check.outcomes(x, 1, 0, 2, 7);
                Check.dueCall(used + " of " + capacity, x, used < capacity ? "7" : Check.IOOBE);
                Check.dueEvents(used + " of " + capacity, x, used < capacity ? "51" : "11");
            }
        }
    }

    /** CAPACITY 0, the least: USED 0 is CAPACITY already. */
    private static void nobodyGoesIntoCapacityNone() {
        GuardedCalls x = using(0, 0);
        Check.dueCall("none used", x, Check.IOOBE);
        Check.due("bulkhead(1)", x.bulkhead(1), true);
        Check.dueCall("one place", x, 0);
    }

    /** A refused call takes no outcome, no time and no place. */
    private static void refusedCallGoesNoFurther() {
        GuardedCalls x = using(2, 2);
        Check.outcomes(x, 1, 0, 2, 7);
        for (int n = 0; n < 4; n++) {
            Check.dueCall("full", x, Check.IOOBE);
            Check.due("tells", Check.tells(x), "0 0 0 2 2 1 0 0");
        }
        Check.due("use(-1)", x.use(-1), true);
        Check.dueCall("one place", x, 7);
    }

    /** "(it uses a place only while it lasts)": the only place is free again, whatever the call came to. */
    private static void placeIsFreeBehindEveryEnd() {
        GuardedCalls x = Check.with(1, 4);
        Check.due("bulkhead(1)", x.bulkhead(1), true);
        for (int round = 0; round < 3; round++) {
            Check.outcomes(x, 1, 0, 1, 3);
            Check.outcomes(x, 1, 1, 1, 0);
            Check.outcomes(x, 1, 2, 1, 0);
            Check.outcomes(x, 1, 0, 11, 0);
            Check.dueCall("answered", x, 3);
            Check.dueCall("failed in the first way", x, Check.IAE);
            Check.dueCall("failed in the second way", x, Check.UOE);
            Check.dueCall("cut off", x, Check.AE);
            Check.due("USED", x.tell(3), 0);
        }
        // What stands further in refuses.
        x = Check.with(2, 1);
        Check.due("bulkhead(1)", x.bulkhead(1), true);
        Check.due("limiter(50, 1, 0)", x.limiter(50, 1, 0), true);
        Check.dueCall("permit", x, 0);
        Check.dueCall("refused inside", x, Check.NSEE);
        Check.dueCall("refused inside, not by the bulkhead", x, Check.NSEE);
        // With others in it, just the last place is left.
        x = using(5, 4);
        Check.dueCall("the last place", x, 0);
        Check.dueCall("it is free again", x, 0);
        Check.due("USED", x.tell(3), 4);
    }

    /** CAPACITY may come to be below USED: others keep their places. */
    private static void lowerCapacityLeavesUsed() {
        GuardedCalls x = using(5, 4);
        Check.due("bulkhead(1)", x.bulkhead(1), true);
        Check.due("USED", x.tell(3), 4);
        Check.dueCall("4 of 1", x, Check.IOOBE);
        Check.due("use(-3)", x.use(-3), true);
        Check.dueCall("1 of 1", x, Check.IOOBE);
        Check.due("use(-1)", x.use(-1), true);
        Check.dueCall("0 of 1", x, 0);
    }

    /** Promise 5, "false if it would be less than 0 or more than 9": from each USED, each way about both bounds. */
    private static void usedStaysWithinItsBounds() {
        for (int used = 0; used <= 9; used++) {
            for (int n = -11; n <= 11; n++) {
                GuardedCalls x = using(2, used);
                boolean fine = used + n >= 0 && used + n <= 9;
                Check.due("use(" + n + ") with " + used, x.use(n), fine);
                Check.due("USED after use(" + n + ") with " + used, x.tell(3), fine ? used + n : used);
            }
        }
    }

    /** The same for an n that would run over an int. */
    private static void usedDoesNotWrapAround() {
        int[] far = {Integer.MIN_VALUE, Integer.MIN_VALUE + 1, Integer.MIN_VALUE + 9, Integer.MAX_VALUE - 9,
            Integer.MAX_VALUE - 1, Integer.MAX_VALUE, 256, -256, 65536, -65536};
        for (int used = 0; used <= 9; used++) {
            for (int n : far) {
                GuardedCalls x = using(2, used);
                Check.due("use(" + n + ") with " + used, x.use(n), false);
                Check.due("USED", x.tell(3), used);
            }
        }
    }

    private static GuardedCalls using(int capacity, int used) {
        GuardedCalls x = Check.with(1);
        Check.due("bulkhead", x.bulkhead(capacity), true);
        Check.due("use", x.use(used), true);
        return x;
    }
}
