/** Promises 6 (reserve), 7 (refusal), 8 (cancelReservation) and 9 (reservedProcessor). */
final class ReservationTest {
    static void run(Check check) {
        ranges(check);
        edgesOfTheRanges(check);
        lowestBlockIsTaken(check);
        atMostSix(check);
        reasonsInOrder(check);
        refusalGoesWithSuccess(check);
        cancelling(check);
        wrongReservations(check);
        staysWhenItsIntervalIsOver(check);
    }

    private static void ranges(Check check) {
        BuddyBlockScheduler x = new BuddyBlockScheduler();
        int[][] wrong = {
            {-1, 0, 1}, {6, 0, 1}, {0, -1, 1}, {0, 1001, 1}, {0, 0, 0}, {0, 0, 41}, {0, 0, -1},
            {Integer.MIN_VALUE, 0, 1}, {0, Integer.MAX_VALUE, 1}, {0, 0, Integer.MAX_VALUE}, {32, 0, 1},
        };
        for (int[] w : wrong) {
            check.bad("6: reserve" + java.util.Arrays.toString(w), () -> x.reserve(w[0], w[1], w[2]));
            check.same("7: refusal", x.refusal(), 0);
        }
        check.outside("6: nothing was reserved", () -> x.reservedProcessor(0));
    }

    private static void edgesOfTheRanges(Check check) {
        BuddyBlockScheduler x = new BuddyBlockScheduler();
        check.same("6: least numbers", x.reserve(0, 0, 1), 0);
        check.same("6: greatest numbers", x.reserve(5, 1000, 40), 1);
        check.same("25: last unit", x.ownerAt(31, 1039), 101);
        check.same("25: behind it", x.ownerAt(31, 1040), -1);
        check.same("24: reservations do not count", x.makespan(), 0);
        check.same("34: no events", x.eventCount(), 0);
    }

    private static void lowestBlockIsTaken(Check check) {
        BuddyBlockScheduler x = new BuddyBlockScheduler();
        x.submit(0, 0, 5, 5);
        check.same("6: meets the job", x.reserve(3, 4, 1), 0);
        check.same("9: second block", x.reservedProcessor(0), 8);
        check.same("6: behind the job", x.reserve(3, 5, 1), 1);
        check.same("9: first block", x.reservedProcessor(1), 0);
        check.same("6: meets both reservations", x.reserve(2, 4, 2), 2);
        check.same("9: block 16", x.reservedProcessor(2), 16);
        check.same("6: meets the first reservation", x.reserve(2, 4, 1), 3);
        check.same("9: block 4", x.reservedProcessor(3), 4);
    }

    private static void atMostSix(Check check) {
        BuddyBlockScheduler x = new BuddyBlockScheduler();
        for (int i = 0; i < 6; i++) {
            check.same("6: reservation " + i, x.reserve(0, 0, 1), i);
        }
        check.refused("6: a seventh", () -> x.reserve(0, 0, 1));
        check.same("7: six", x.refusal(), 2);
        x.cancelReservation(2);
        check.refused("6: cancelled ones count", () -> x.reserve(0, 0, 1));
        check.same("7: six still", x.refusal(), 2);
    }

    private static void reasonsInOrder(Check check) {
        BuddyBlockScheduler x = new BuddyBlockScheduler();
        x.advance(5);
        check.refused("6: before the clock", () -> x.reserve(0, 4, 40));
        check.same("7: before the clock", x.refusal(), 1);
        x.reserve(5, 5, 1);
        check.refused("6: no block", () -> x.reserve(0, 5, 1));
        check.same("7: no block", x.refusal(), 3);
        check.refused("6: before the clock and no block", () -> x.reserve(0, 4, 2));
        check.same("7: before the clock and no block", x.refusal(), 1);
        for (int i = 1; i < 6; i++) {
            x.reserve(5, 5 + i, 1);
        }
        check.refused("6: six and no block", () -> x.reserve(0, 5, 1));
        check.same("7: six and no block", x.refusal(), 2);
        check.refused("6: all three", () -> x.reserve(0, 4, 3));
        check.same("7: all three", x.refusal(), 1);
    }

    private static void refusalGoesWithSuccess(Check check) {
        BuddyBlockScheduler x = new BuddyBlockScheduler();
        x.reserve(5, 3, 2);
        check.refused("6: no block", () -> x.reserve(0, 4, 1));
        check.bad("6: out of range", () -> x.reserve(0, 4, 0));
        check.same("7: stays when out of range", x.refusal(), 3);
        check.same("6: the refused one has no number", x.reserve(0, 5, 1), 1);
        check.same("7: not refused", x.refusal(), 0);
    }

    private static void cancelling(Check check) {
        BuddyBlockScheduler x = new BuddyBlockScheduler();
        x.reserve(5, 0, 9);
        x.reserve(5, 11, 2);
        x.submit(0, 4, 5, 5);
        x.submit(0, 4, 2, 2);
        check.same("8: behind both", x.startTime(0), 13);
        check.same("8: between them", x.startTime(1), 9);
        x.cancelReservation(1);
        check.same("8: replanned", x.startTime(0), 9);
        check.same("8: waiting", x.state(0), 0);
        x.cancelReservation(0);
        check.same("8: started", x.state(0), 1);
        check.same("8: both started", x.state(1), 1);
        check.same("8: at once", x.startTime(1), 0);
        check.same("8: the processors are free again", x.freeProcessors(5), 32);
        check.refused("8: cancelled already", () -> x.cancelReservation(0));
        check.refused("9: cancelled", () -> x.reservedProcessor(0));
        check.same("6: the number is not used again", x.reserve(0, 20, 1), 2);
    }

    private static void wrongReservations(Check check) {
        BuddyBlockScheduler x = new BuddyBlockScheduler();
        x.reserve(0, 0, 1);
        for (int number : new int[] {-1, 1, 6, Integer.MAX_VALUE, Integer.MIN_VALUE}) {
            check.outside("8: cancelReservation(" + number + ")", () -> x.cancelReservation(number));
            check.outside("9: reservedProcessor(" + number + ")", () -> x.reservedProcessor(number));
        }
        check.same("9: untouched", x.reservedProcessor(0), 0);
    }

    private static void staysWhenItsIntervalIsOver(Check check) {
        BuddyBlockScheduler x = new BuddyBlockScheduler();
        x.reserve(3, 1, 2);
        x.advance(9);
        check.same("9: over", x.reservedProcessor(0), 0);
        check.same("25: in the past", x.ownerAt(7, 2), 100);
        check.same("31: in the past", x.lowestBlock(3, 0, 40), 8);
        x.cancelReservation(0);
        check.same("25: cancelled", x.ownerAt(7, 2), -1);
        check.refused("9: cancelled", () -> x.reservedProcessor(0));
    }
}
