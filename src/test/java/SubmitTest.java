/** Promise 2 (submit): ordinary plans; the edges stand in SubmitEdges. */
final class SubmitTest {
    static void run(Check check) {
        lowestFreeBlock(check);
        backfillsBeforeAWaitingJob(check);
        plansAroundReservations(check);
        blocksAreAligned(check);
    }

    private static void lowestFreeBlock(Check check) {
        BuddyBlockScheduler x = new BuddyBlockScheduler();
        x.submit(0, 0, 4, 4);
        check.same("2: order 3", x.submit(0, 3, 4, 4), 0);
        check.same("2: block of order 3", x.firstProcessor(1), 8);
        check.same("2: order 1", x.submit(0, 1, 4, 4), 0);
        check.same("2: block of order 1", x.firstProcessor(2), 2);
        check.same("2: order 0", x.submit(0, 0, 4, 4), 0);
        check.same("2: block of order 0", x.firstProcessor(3), 1);
        check.same("2: order 4", x.submit(0, 4, 4, 4), 0);
        check.same("2: block of order 4", x.firstProcessor(4), 16);
        check.same("2: order 2", x.submit(0, 2, 4, 4), 0);
        check.same("2: block of order 2", x.firstProcessor(5), 4);
        check.same("2: all is full", x.submit(0, 0, 4, 4), 4);
    }

    private static void backfillsBeforeAWaitingJob(Check check) {
        BuddyBlockScheduler x = new BuddyBlockScheduler();
        x.submit(0, 4, 6, 6);
        x.submit(0, 5, 3, 3);
        check.same("2: fits the gap exactly", x.submit(1, 3, 6, 6), 0);
        check.same("2: one unit too long", x.submit(1, 3, 7, 1), 9);
        check.same("2: the waiting job keeps its start", x.startTime(1), 6);
    }

    private static void plansAroundReservations(Check check) {
        BuddyBlockScheduler x = new BuddyBlockScheduler();
        x.reserve(4, 2, 3);
        x.reserve(4, 7, 1);
        check.same("2: beside the reservations", x.submit(0, 4, 20, 20), 0);
        check.same("2: on the other half", x.firstProcessor(0), 16);
        check.same("2: before the first reservation", x.submit(0, 4, 2, 2), 0);
        check.same("2: between the reservations", x.submit(0, 4, 2, 2), 5);
        check.same("2: behind the reservations", x.submit(0, 4, 3, 3), 8);
    }

    private static void blocksAreAligned(Check check) {
        BuddyBlockScheduler x = new BuddyBlockScheduler();
        for (int job = 0; job < 8; job++) {
            x.submit(0, 2, 10, 10);
        }
        x.cancel(1);
        x.cancel(2);
        check.same("2: eight neighbours that are no block", x.freeProcessors(0), 8);
        check.same("2: no block of order 3 before unit 10", x.submit(0, 3, 1, 1), 10);
        check.same("2: a block of order 2", x.submit(0, 2, 10, 10), 0);
        check.same("2: the lower one", x.firstProcessor(9), 4);
    }
}
