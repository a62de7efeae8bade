/** Promises 6 to 9: ordinary reservations; the edges stand in ReservationEdges and RefusalEdges. */
final class ReservationTest {
    static void run(Check check) {
        lowestBlockIsTaken(check);
        refusalGoesWithSuccess(check);
        cancelling(check);
    }

    private static void lowestBlockIsTaken(Check check) {
        BuddyBlockScheduler x = new BuddyBlockScheduler();
        x.submit(0, 0, 5, 5);
        check.same("6: meets the job", x.reserve(3, 4, 1), 0);
        check.same("9: second block", x.reservedProcessor(0), 8);
        check.same("6: behind the job", x.reserve(3, 5, 1), 1);
        check.same("9: first block", x.reservedProcessor(1), 0);
        check.same("6: meets both reservations", x.reserve(2, 4, 2), 2);
        check.same("9: block 16", x.reservedProcessor(2), 16);
        check.same("6: meets the first reservation", x.reserve(2, 4, 1), 3);
        check.same("9: block 4", x.reservedProcessor(3), 4);
    }

    private static void refusalGoesWithSuccess(Check check) {
        BuddyBlockScheduler x = new BuddyBlockScheduler();
        x.reserve(5, 3, 2);
        check.refused("6: no block", () -> x.reserve(0, 4, 1));
        check.bad("6: out of range", () -> x.reserve(0, 4, 0));
        check.same("7: stays when out of range", x.refusal(), 3);
        check.same("6: the refused one has no number", x.reserve(0, 5, 1), 1);
        check.same("7: not refused", x.refusal(), 0);
    }

    private static void cancelling(Check check) {
        BuddyBlockScheduler x = new BuddyBlockScheduler();
        x.reserve(5, 0, 9);
        x.reserve(5, 11, 2);
        x.submit(0, 4, 5, 5);
        x.submit(0, 4, 2, 2);
        check.same("8: behind both", x.startTime(0), 13);
        check.same("8: between them", x.startTime(1), 9);
        x.cancelReservation(1);
        check.same("8: replanned", x.startTime(0), 9);
        check.same("8: waiting", x.state(0), 0);
        x.cancelReservation(0);
        check.same("8: started", x.state(0), 1);
        check.same("8: both started", x.state(1), 1);
        check.same("8: at once", x.startTime(1), 0);
        check.same("8: the processors are free again", x.freeProcessors(5), 32);
        check.refused("8: cancelled already", () -> x.cancelReservation(0));
        check.refused("9: cancelled", () -> x.reservedProcessor(0));
        check.same("6: the number is not used again", x.reserve(0, 20, 1), 2);
    }
}
