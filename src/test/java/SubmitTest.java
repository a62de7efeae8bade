/** Promises 1 (a new object) and 2 (submit). */
final class SubmitTest {
    static void run(Check check) {
        newObject(check);
        ranges(check);
        edgesOfTheRanges(check);
        atMostTwentyFourJobs(check);
        lowestFreeBlock(check);
        backfillsBeforeAWaitingJob(check);
        plansAroundReservations(check);
        blocksAreAligned(check);
    }

    private static void newObject(Check check) {
        BuddyBlockScheduler x = new BuddyBlockScheduler();
        check.same("1: clock", x.clock(), 0);
        check.same("1: jobCount", x.jobCount(), 0);
        check.same("1: eventCount", x.eventCount(), 0);
        check.same("1: refusal", x.refusal(), 0);
        check.same("1: makespan", x.makespan(), 0);
        check.same("1: freeProcessors", x.freeProcessors(0), 32);
        check.same("1: freeBlocks(5)", x.freeBlocks(5), 1);
        check.outside("1: reservedProcessor(0)", () -> x.reservedProcessor(0));
        check.outside("1: state(0)", () -> x.state(0));
        check.same("1: fairness is off", x.setFair(false), false);
        check.refused("1: nothing is saved", x::restore);
        for (int user = 0; user < 4; user++) {
            check.same("1: usage", x.usage(user), 0);
        }
    }

    private static void ranges(Check check) {
        BuddyBlockScheduler x = new BuddyBlockScheduler();
        int[][] wrong = {
            {-1, 0, 1, 1}, {4, 0, 1, 1}, {0, -1, 1, 1}, {0, 6, 1, 1}, {0, 0, 0, 1}, {0, 0, 0, 0},
            {0, 0, 41, 1}, {0, 0, 5, 0}, {0, 0, 5, 6}, {0, 0, 5, -1}, {0, 0, -3, -3},
            {Integer.MIN_VALUE, 0, 1, 1}, {0, Integer.MAX_VALUE, 1, 1}, {0, 32, 1, 1},
            {0, 0, Integer.MAX_VALUE, 1}, {0, 0, 40, Integer.MIN_VALUE},
        };
        for (int[] w : wrong) {
            check.bad("2: submit" + java.util.Arrays.toString(w), () -> x.submit(w[0], w[1], w[2], w[3]));
        }
        check.same("2: nothing was submitted", x.jobCount(), 0);
        check.same("2: nothing was recorded", x.eventCount(), 0);
    }

    private static void edgesOfTheRanges(Check check) {
        BuddyBlockScheduler x = new BuddyBlockScheduler();
        check.same("2: least numbers", x.submit(0, 0, 1, 1), 0);
        check.same("2: greatest numbers", x.submit(3, 5, 40, 40), 1);
        check.same("2: least running time", x.submit(3, 0, 40, 1), 41);
        check.same("2: jobCount", x.jobCount(), 3);
        check.same("2: the first one runs", x.state(0), 1);
        check.same("2: the second one waits", x.state(1), 0);
    }

    private static void atMostTwentyFourJobs(Check check) {
        BuddyBlockScheduler x = new BuddyBlockScheduler();
        for (int job = 0; job < 24; job++) {
            check.same("2: job " + job, x.submit(0, 0, 1, 1), 0);
            check.same("2: processor of job " + job, x.firstProcessor(job), job);
        }
        check.refused("2: job 24", () -> x.submit(0, 0, 1, 1));
        check.bad("2: a wrong number is looked at before the limit", () -> x.submit(4, 0, 1, 1));
        x.cancel(0);
        x.advance(1);
        check.refused("2: jobs that are over count among the 24", () -> x.submit(0, 0, 1, 1));
        check.same("2: jobCount", x.jobCount(), 24);
    }

    private static void lowestFreeBlock(Check check) {
        BuddyBlockScheduler x = new BuddyBlockScheduler();
        x.submit(0, 0, 4, 4);
        check.same("2: order 3", x.submit(0, 3, 4, 4), 0);
        check.same("2: block of order 3", x.firstProcessor(1), 8);
        check.same("2: order 1", x.submit(0, 1, 4, 4), 0);
        check.same("2: block of order 1", x.firstProcessor(2), 2);
        check.same("2: order 0", x.submit(0, 0, 4, 4), 0);
        check.same("2: block of order 0", x.firstProcessor(3), 1);
        check.same("2: order 4", x.submit(0, 4, 4, 4), 0);
        check.same("2: block of order 4", x.firstProcessor(4), 16);
        check.same("2: order 2", x.submit(0, 2, 4, 4), 0);
        check.same("2: block of order 2", x.firstProcessor(5), 4);
        check.same("2: all is full", x.submit(0, 0, 4, 4), 4);
    }

    private static void backfillsBeforeAWaitingJob(Check check) {
        BuddyBlockScheduler x = new BuddyBlockScheduler();
        x.submit(0, 4, 6, 6);
        x.submit(0, 5, 3, 3);
        check.same("2: fits the gap exactly", x.submit(1, 3, 6, 6), 0);
        check.same("2: one unit too long", x.submit(1, 3, 7, 1), 9);
        check.same("2: the waiting job keeps its start", x.startTime(1), 6);
    }

    private static void plansAroundReservations(Check check) {
        BuddyBlockScheduler x = new BuddyBlockScheduler();
        x.reserve(4, 2, 3);
        x.reserve(4, 7, 1);
        check.same("2: beside the reservations", x.submit(0, 4, 20, 20), 0);
        check.same("2: on the other half", x.firstProcessor(0), 16);
        check.same("2: before the first reservation", x.submit(0, 4, 2, 2), 0);
        check.same("2: between the reservations", x.submit(0, 4, 2, 2), 5);
        check.same("2: behind the reservations", x.submit(0, 4, 3, 3), 8);
    }

    private static void blocksAreAligned(Check check) {
        BuddyBlockScheduler x = new BuddyBlockScheduler();
        for (int job = 0; job < 8; job++) {
            x.submit(0, 2, 10, 10);
        }
        x.cancel(1);
        x.cancel(2);
        check.same("2: eight neighbours that are no block", x.freeProcessors(0), 8);
        check.same("2: no block of order 3 before unit 10", x.submit(0, 3, 1, 1), 10);
        check.same("2: a block of order 2", x.submit(0, 2, 10, 10), 0);
        check.same("2: the lower one", x.firstProcessor(9), 4);
    }
}
