/** The edges that promise 6 (reserve) names, a test for each. */
final class ReservationEdges {
    static void run(Check check) {
        orderRange(check);
        fromRange(check);
        lengthRange(check);
        argumentsFarOutside(check);
        beforeTheClock(check);
        sixthAndSeventh(check);
        cancelledOnesCount(check);
        intervalThatTouches(check);
        intervalThatMeets(check);
        waitingJobsAreInTheWay(check);
        lastFreeProcessor(check);
        lowestOfSeveral(check);
        refusedOneHasNoNumber(check);
        rangeIsCheckedFirst(check);
        atThousand(check);
    }

    /** "the order of the block, 0 to 5" */
    private static void orderRange(Check check) {
        BuddyBlockScheduler x = new BuddyBlockScheduler();
        check.bad("6: order -1", () -> x.reserve(-1, 0, 1));
        check.bad("6: order 6", () -> x.reserve(6, 0, 1));
        check.outside("9: no reservation", () -> x.reservedProcessor(0));
        check.same("6: order 0", x.reserve(0, 0, 1), 0);
        check.same("26: one processor", x.freeProcessors(0), 31);
        check.same("6: order 5", x.reserve(5, 1, 1), 1);
        check.same("26: all processors", x.freeProcessors(1), 0);
    }

    /** "the first unit, 0 to 1000" */
    private static void fromRange(Check check) {
        BuddyBlockScheduler x = new BuddyBlockScheduler();
        check.bad("6: from -1", () -> x.reserve(0, -1, 1));
        check.bad("6: from 1001", () -> x.reserve(0, 1001, 1));
        check.outside("9: no reservation", () -> x.reservedProcessor(0));
        check.same("6: from 0", x.reserve(0, 0, 1), 0);
        check.same("25: unit 0", x.ownerAt(0, 0), 100);
        check.same("6: from 1000", x.reserve(0, 1000, 1), 1);
        check.same("25: unit 999", x.ownerAt(0, 999), -1);
        check.same("25: unit 1000", x.ownerAt(0, 1000), 101);
        check.same("25: unit 1001", x.ownerAt(0, 1001), -1);
    }

    /** "the number of units, 1 to 40" */
    private static void lengthRange(Check check) {
        BuddyBlockScheduler x = new BuddyBlockScheduler();
        check.bad("6: length 0", () -> x.reserve(0, 0, 0));
        check.bad("6: length -1", () -> x.reserve(0, 0, -1));
        check.bad("6: length 41", () -> x.reserve(0, 0, 41));
        check.outside("9: no reservation", () -> x.reservedProcessor(0));
        check.same("6: length 1", x.reserve(0, 5, 1), 0);
        check.same("25: the unit before", x.ownerAt(0, 4), -1);
        check.same("25: its only unit", x.ownerAt(0, 5), 100);
        check.same("25: the unit behind", x.ownerAt(0, 6), -1);
        check.same("6: length 40", x.reserve(5, 1000, 40), 1);
        check.same("25: the last of forty units", x.ownerAt(31, 1039), 101);
        check.same("25: behind them", x.ownerAt(31, 1040), -1);
        check.same("26: the last of forty units", x.freeProcessors(1039), 0);
        check.same("26: behind them", x.freeProcessors(1040), 32);
    }

    private static void argumentsFarOutside(Check check) {
        BuddyBlockScheduler x = new BuddyBlockScheduler();
        for (int far : new int[] {Integer.MIN_VALUE, Integer.MAX_VALUE, -1000, 1 << 16}) {
            check.bad("6: order " + far, () -> x.reserve(far, 0, 1));
            check.bad("6: from " + far, () -> x.reserve(0, far, 1));
            check.bad("6: length " + far, () -> x.reserve(0, 0, far));
        }
        check.bad("6: order 32", () -> x.reserve(32, 0, 1));
        check.same("7: refusal", x.refusal(), 0);
        check.outside("9: no reservation", () -> x.reservedProcessor(0));
    }

    /** "if the first unit is before the clock" */
    private static void beforeTheClock(Check check) {
        BuddyBlockScheduler x = AdvanceEdges.at(5);
        check.refused("6: from 4 at 5", () -> x.reserve(0, 4, 40));
        check.same("7: before the clock", x.refusal(), 1);
        check.refused("6: from 0 at 5", () -> x.reserve(0, 0, 1));
        check.same("7: before the clock", x.refusal(), 1);
        check.same("6: from 5 at 5", x.reserve(0, 5, 40), 0);
        check.same("7: not refused", x.refusal(), 0);
    }

    /** "or there are 6 reservations" */
    private static void sixthAndSeventh(Check check) {
        BuddyBlockScheduler x = new BuddyBlockScheduler();
        for (int i = 0; i < 5; i++) {
            check.same("6: reservation " + i, x.reserve(0, 0, 1), i);
        }
        check.same("6: the sixth", x.reserve(0, 0, 1), 5);
        check.same("9: its processor", x.reservedProcessor(5), 5);
        check.refused("6: the seventh", () -> x.reserve(0, 0, 1));
        check.same("7: six", x.refusal(), 2);
        check.outside("9: there is no seventh", () -> x.reservedProcessor(6));
        check.outside("8: there is no seventh", () -> x.cancelReservation(6));
        check.same("25: the sixth one's owner", x.ownerAt(5, 0), 105);
        check.same("25: nobody's", x.ownerAt(6, 0), -1);
    }

    /** "Reservations that were cancelled count among the 6." */
    private static void cancelledOnesCount(Check check) {
        BuddyBlockScheduler x = new BuddyBlockScheduler();
        for (int i = 0; i < 6; i++) {
            check.same("6: reservation " + i, x.reserve(5, 0, 40), i);
            x.cancelReservation(i);
        }
        check.refused("6: all six are cancelled", () -> x.reserve(0, 0, 1));
        check.same("7: six", x.refusal(), 2);
        check.same("26: all is free", x.freeProcessors(0), 32);
    }

    private static void intervalThatTouches(Check check) {
        BuddyBlockScheduler x = new BuddyBlockScheduler();
        x.reserve(5, 10, 5);
        check.same("6: up to it", x.reserve(5, 7, 3), 1);
        check.same("6: from its end on", x.reserve(5, 15, 1), 2);
        check.same("6: up to the first of three", x.reserve(5, 0, 7), 3);
        check.same("6: behind the last of three", x.reserve(5, 16, 40), 4);
    }

    /** "or no block of this order is free in the interval" */
    private static void intervalThatMeets(Check check) {
        BuddyBlockScheduler x = new BuddyBlockScheduler();
        x.reserve(5, 10, 5);
        int[][] wrong = {{10, 1}, {14, 1}, {9, 2}, {14, 40}, {0, 11}, {9, 7}, {10, 5}, {11, 3}};
        for (int[] w : wrong) {
            check.refused("6: reserve(0, " + w[0] + ", " + w[1] + ")", () -> x.reserve(0, w[0], w[1]));
            check.same("7: no block", x.refusal(), 3);
        }
        check.same("6: just before", x.reserve(0, 9, 1), 1);
        check.same("6: just behind", x.reserve(0, 15, 1), 2);
    }

    /** A planned job's allocation counts as one that runs does, for its whole estimate. */
    private static void waitingJobsAreInTheWay(Check check) {
        BuddyBlockScheduler x = new BuddyBlockScheduler();
        x.submit(0, 5, 6, 2);
        x.submit(0, 5, 4, 1);
        check.refused("6: the last unit of the running one", () -> x.reserve(0, 5, 1));
        check.same("7: no block", x.refusal(), 3);
        check.refused("6: the first unit of the waiting one", () -> x.reserve(0, 6, 1));
        check.refused("6: the last unit of the waiting one", () -> x.reserve(0, 9, 1));
        check.same("6: behind it", x.reserve(5, 10, 1), 0);
    }

    private static void lastFreeProcessor(Check check) {
        BuddyBlockScheduler x = new BuddyBlockScheduler();
        for (int order = 4; order >= 0; order--) {
            x.submit(0, order, 9, 9);
        }
        check.refused("6: two processors", () -> x.reserve(1, 8, 1));
        check.same("7: no block", x.refusal(), 3);
        check.same("6: one processor", x.reserve(0, 8, 1), 0);
        check.same("9: the last one", x.reservedProcessor(0), 31);
        check.refused("6: no processor", () -> x.reserve(0, 8, 1));
        check.same("6: two processors later", x.reserve(1, 9, 1), 1);
        check.same("9: the first ones", x.reservedProcessor(1), 0);
    }

    /** "the free block with the lowest first processor" */
    private static void lowestOfSeveral(Check check) {
        BuddyBlockScheduler x = new BuddyBlockScheduler();
        x.submit(0, 0, 5, 5);
        check.same("6: the first block is not free", x.reserve(3, 4, 1), 0);
        check.same("9: the second one", x.reservedProcessor(0), 8);
        check.same("6: the first block is free", x.reserve(3, 5, 1), 1);
        check.same("9: the first one", x.reservedProcessor(1), 0);
        check.same("6: a part of the first block is free", x.reserve(2, 4, 1), 2);
        check.same("9: that part", x.reservedProcessor(2), 4);
    }

    private static void refusedOneHasNoNumber(Check check) {
        BuddyBlockScheduler x = new BuddyBlockScheduler();
        x.reserve(5, 3, 2);
        check.refused("6: no block", () -> x.reserve(0, 4, 1));
        check.outside("9: it has no number", () -> x.reservedProcessor(1));
        check.same("6: the next number", x.reserve(0, 5, 1), 1);
    }

    /** "they are checked in the order in which they are listed": the range before the three reasons. */
    private static void rangeIsCheckedFirst(Check check) {
        BuddyBlockScheduler x = AdvanceEdges.at(5);
        check.bad("6: order 6, before the clock", () -> x.reserve(6, 4, 1));
        check.bad("6: length 41, before the clock", () -> x.reserve(0, 4, 41));
        check.bad("6: from -1 is before the clock, too", () -> x.reserve(0, -1, 1));
        x.reserve(5, 5, 1);
        check.bad("6: order -1, no block", () -> x.reserve(-1, 5, 1));
        check.bad("6: length 0, no block", () -> x.reserve(0, 5, 0));
        check.bad("6: length 41, no block", () -> x.reserve(0, 5, 41));
        for (int i = 1; i < 6; i++) {
            x.reserve(0, 20, 1);
        }
        check.bad("6: order 6, six reservations", () -> x.reserve(6, 20, 1));
        check.bad("6: from 1001, six reservations", () -> x.reserve(0, 1001, 1));
        check.bad("6: length 0, six reservations", () -> x.reserve(0, 20, 0));
        check.bad("6: all at once", () -> x.reserve(6, -1, 0));
        check.same("7: the last one was not refused", x.refusal(), 0);
    }

    private static void atThousand(Check check) {
        BuddyBlockScheduler x = AdvanceEdges.atThousand();
        check.refused("6: from 999 at 1000", () -> x.reserve(0, 999, 2));
        check.same("7: before the clock", x.refusal(), 1);
        check.bad("6: from 1001 at 1000", () -> x.reserve(0, 1001, 1));
        check.same("7: stays", x.refusal(), 1);
        check.same("6: from 1000 at 1000", x.reserve(5, 1000, 40), 0);
        check.same("7: not refused", x.refusal(), 0);
        check.same("2: behind it", x.submit(0, 0, 1, 1), 1040);
    }
}
