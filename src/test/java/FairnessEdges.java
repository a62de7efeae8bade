/** The edges that promise 10 (setFair) and the description's replanning name, a test for each. */
final class FairnessEdges {
    static void run(Check check) {
        offAtFirst(check);
        returnsTheSettingBefore(check);
        switchingOnReplansNothing(check);
        switchingOffReplansNothing(check);
        submittingReplansNothing(check);
        leastDifferenceOfUsage(check);
        equalUsageGoesByPlannedStart(check);
        equalPlannedStartsGoByNumber(check);
        usageComesBeforeThePlannedStart(check);
        usageCountsOnlyWhenItIsOn(check);
        usageIncludesTheJobThatJustFinished(check);
        usageCountsAtTheBeginning(check);
        allFourUsers(check);
        everyReplanningIsFair(check);
        plannedStartsCountAtTheBeginning(check);
        nobodyIsPlannedLater(check);
        sameStartOnALowerBlock(check);
        moveByOneUnit(check);
        allTwentyThreeMove(check);
    }

    /** "it is off at first" */
    private static void offAtFirst(Check check) {
        check.same("10: off at first", new BuddyBlockScheduler().setFair(false), false);
        check.same("10: off at first", new BuddyBlockScheduler().setFair(true), false);
    }

    /** "Returns whether it was on before." */
    private static void returnsTheSettingBefore(Check check) {
        BuddyBlockScheduler x = new BuddyBlockScheduler();
        check.same("10: off", x.setFair(true), false);
        check.same("10: on", x.setFair(true), true);
        check.same("10: on still", x.setFair(false), true);
        check.same("10: off again", x.setFair(false), false);
        check.same("10: off still", x.setFair(true), false);
    }

    /** Job 0 of user 0 runs on all; behind it wait a job of user 0 and then one of user 1. */
    private static BuddyBlockScheduler twoUsers() {
        BuddyBlockScheduler x = new BuddyBlockScheduler();
        x.submit(0, 5, 9, 9);
        x.submit(0, 5, 6, 6);
        x.submit(1, 5, 3, 3);
        return x;
    }

    /** "Switching fairness replans nothing at once." */
    private static void switchingOnReplansNothing(Check check) {
        BuddyBlockScheduler x = twoUsers();
        x.advance(2);
        x.setFair(true);
        check.same("14: user 0", x.startTime(1), 9);
        check.same("14: user 1", x.startTime(2), 15);
        check.same("34: no event", x.eventCount(), 4);
        x.advance(3);
        check.same("14: user 1 in quiet ticks", x.startTime(2), 15);
    }

    private static void switchingOffReplansNothing(Check check) {
        BuddyBlockScheduler x = twoUsers();
        x.setFair(true);
        x.advance(2);
        x.setFair(false);
        check.same("14: user 0", x.startTime(1), 9);
        check.same("14: user 1", x.startTime(2), 15);
        x.cancel(0);
        check.same("14: by planned start again", x.startTime(1), 2);
        check.same("14: then the other one", x.startTime(2), 8);
    }

    /** A new job is planned alone, however little its user has used. */
    private static void submittingReplansNothing(Check check) {
        BuddyBlockScheduler x = twoUsers();
        x.setFair(true);
        x.advance(2);
        check.same("2: behind all", x.submit(3, 5, 1, 1), 18);
        check.same("14: user 0", x.startTime(1), 9);
        check.same("14: user 1", x.startTime(2), 15);
    }

    /** "jobs of users with less usage are taken first" */
    private static void leastDifferenceOfUsage(Check check) {
        BuddyBlockScheduler x = new BuddyBlockScheduler();
        x.setFair(true);
        x.submit(0, 0, 3, 3);
        x.submit(1, 0, 2, 2);
        x.reserve(5, 3, 3);
        x.submit(0, 5, 5, 5);
        x.submit(1, 5, 3, 3);
        check.same("14: user 0 before", x.startTime(2), 6);
        check.same("14: user 1 before", x.startTime(3), 11);
        x.advance(3);
        check.same("22: usage 3", x.usage(0), 3);
        check.same("22: usage 2", x.usage(1), 2);
        x.cancelReservation(0);
        check.same("14: user 1 goes first", x.startTime(3), 3);
        check.same("14: user 0 stays", x.startTime(2), 6);
    }

    private static void equalUsageGoesByPlannedStart(Check check) {
        BuddyBlockScheduler x = new BuddyBlockScheduler();
        x.setFair(true);
        x.submit(0, 5, 10, 2);
        x.reserve(5, 12, 3);
        check.same("2: behind the reservation", x.submit(1, 5, 5, 5), 15);
        check.same("2: before it", x.submit(2, 5, 2, 2), 10);
        x.advance(2);
        check.same("14: the earlier planned start", x.startTime(2), 2);
        check.same("14: the later planned start", x.startTime(1), 4);
    }

    /** "jobs with equal planned starts are taken by their numbers" */
    private static void equalPlannedStartsGoByNumber(Check check) {
        for (boolean fair : new boolean[] {false, true}) {
            BuddyBlockScheduler x = new BuddyBlockScheduler();
            x.setFair(fair);
            x.submit(0, 5, 9, 9);
            x.submit(1, 4, 6, 6);
            x.submit(2, 4, 6, 6);
            check.same("14: both at 9", x.startTime(1), 9);
            check.same("14: both at 9", x.startTime(2), 9);
            x.cancel(0);
            check.same("15: the lower number first", x.firstProcessor(1), 0);
            check.same("15: then the higher one", x.firstProcessor(2), 16);
            EventEdges.sameTail(check, "10: moved by number", x, new int[][] {{0, 5, 1}, {0, 5, 2}, {0, 1, 1}, {0, 1, 2}});
        }
    }

    /** "If fairness is switched on, the usage of the user decides first" */
    private static void usageComesBeforeThePlannedStart(Check check) {
        BuddyBlockScheduler x = twoUsers();
        x.setFair(true);
        x.advance(2);
        x.cancel(0);
        check.same("14: user 1 without usage", x.startTime(2), 2);
        check.same("14: user 0 with usage", x.startTime(1), 5);
        EventEdges.sameTail(check, "10: moved in this order", x,
                new int[][] {{2, 3, 0}, {2, 5, 2}, {2, 5, 1}, {2, 1, 2}});
    }

    private static void usageCountsOnlyWhenItIsOn(Check check) {
        BuddyBlockScheduler x = twoUsers();
        x.advance(2);
        x.cancel(0);
        check.same("14: user 0 was planned first", x.startTime(1), 2);
        check.same("14: user 1 behind", x.startTime(2), 8);
    }

    /** In the tick in which the job of user 0 finishes, its units count already. */
    private static void usageIncludesTheJobThatJustFinished(Check check) {
        BuddyBlockScheduler x = new BuddyBlockScheduler();
        x.setFair(true);
        x.submit(0, 5, 9, 1);
        x.submit(0, 5, 6, 6);
        x.submit(1, 5, 3, 3);
        x.advance(1);
        check.same("14: user 1 without usage", x.startTime(2), 1);
        check.same("14: user 0 with usage", x.startTime(1), 4);
    }

    /** "Usages ... count as they are when a replanning begins": the current unit is not among them. */
    private static void usageCountsAtTheBeginning(Check check) {
        BuddyBlockScheduler x = twoUsers();
        x.setFair(true);
        x.cancel(0);
        check.same("22: no usage in the first unit", x.usage(0), 0);
        check.same("14: so user 0 stays first", x.startTime(1), 0);
        check.same("14: and user 1 second", x.startTime(2), 6);
    }

    /** The users' usages are 4, 3, 2 and 1, and each waits with one job. */
    private static void allFourUsers(Check check) {
        BuddyBlockScheduler x = new BuddyBlockScheduler();
        x.setFair(true);
        for (int user = 0; user < 4; user++) {
            x.submit(user, 0, 4 - user, 4 - user);
        }
        x.reserve(5, 4, 40);
        for (int user = 0; user < 4; user++) {
            x.submit(user, 5, 10, 10);
        }
        x.advance(4);
        x.cancelReservation(0);
        check.same("14: user 3", x.startTime(7), 4);
        check.same("14: user 2", x.startTime(6), 14);
        check.same("14: user 1", x.startTime(5), 24);
        check.same("14: user 0", x.startTime(4), 34);
    }

    private static void everyReplanningIsFair(Check check) {
        BuddyBlockScheduler x = new BuddyBlockScheduler();
        x.setFair(true);
        x.submit(0, 5, 9, 9);
        x.submit(2, 0, 1, 1);
        x.submit(0, 5, 6, 6);
        x.submit(1, 5, 3, 3);
        x.advance(2);
        check.same("5: behind all", x.preempt(0, 0), 12);
        check.same("14: user 2, planned first of those without usage", x.startTime(1), 2);
        check.same("14: user 1, without usage", x.startTime(3), 3);
        check.same("14: user 0, with usage", x.startTime(2), 6);
    }

    /** "Usages, planned starts and numbers count as they are when a replanning begins" */
    private static void plannedStartsCountAtTheBeginning(Check check) {
        BuddyBlockScheduler x = new BuddyBlockScheduler();
        x.submit(0, 5, 10, 2);
        x.reserve(5, 12, 3);
        check.same("2: behind the reservation", x.submit(0, 5, 5, 5), 15);
        check.same("2: before it", x.submit(0, 5, 2, 2), 10);
        x.advance(2);
        EventEdges.sameTail(check, "10: by the starts before", x,
                new int[][] {{2, 2, 0}, {2, 5, 2}, {2, 5, 1}, {2, 1, 2}});
        check.same("14: behind the other one", x.startTime(1), 4);
    }

    /** "so no job is planned later than before", even if a job with less usage would like its place. */
    private static void nobodyIsPlannedLater(Check check) {
        BuddyBlockScheduler x = new BuddyBlockScheduler();
        x.setFair(true);
        x.submit(0, 4, 9, 9);
        x.submit(0, 4, 5, 5);
        x.submit(0, 5, 6, 6);
        x.submit(1, 5, 3, 3);
        x.advance(2);
        x.cancel(1);
        check.same("14: user 0 keeps its start", x.startTime(2), 9);
        check.same("14: user 1 stays behind", x.startTime(3), 15);
        EventEdges.sameTail(check, "10: nobody moved", x, new int[][] {{0, 0, 3}, {2, 3, 1}});
    }

    /** "moved (5) for a job that gets an earlier planned start": another block alone is no moving. */
    private static void sameStartOnALowerBlock(Check check) {
        BuddyBlockScheduler x = new BuddyBlockScheduler();
        x.reserve(5, 0, 5);
        x.submit(0, 0, 9, 9);
        x.submit(0, 0, 9, 9);
        check.same("15: before", x.firstProcessor(1), 1);
        x.cancel(0);
        check.same("14: same start", x.startTime(1), 5);
        check.same("15: lower processor", x.firstProcessor(1), 0);
        EventEdges.sameTail(check, "10: no event of moving", x, new int[][] {{0, 0, 1}, {0, 3, 0}});
    }

    private static void moveByOneUnit(Check check) {
        BuddyBlockScheduler x = new BuddyBlockScheduler();
        x.reserve(5, 0, 5);
        x.reserve(5, 5, 1);
        x.submit(0, 0, 9, 9);
        x.cancelReservation(1);
        check.same("14: one unit earlier", x.startTime(0), 5);
        EventEdges.sameTail(check, "10: an event of moving", x, new int[][] {{0, 0, 0}, {0, 5, 0}});
    }

    private static void allTwentyThreeMove(Check check) {
        BuddyBlockScheduler x = new BuddyBlockScheduler();
        for (int job = 0; job < 24; job++) {
            x.submit(job % 4, 5, 2, 2);
        }
        x.cancel(0);
        check.same("34: 24, 1 start, 1 end, 23 moves, 1 start", x.eventCount(), 50);
        for (int job = 1; job < 24; job++) {
            check.same("14: job " + job, x.startTime(job), 2 * job - 2);
            check.same("16: its promise", x.promise(job), 2 * job);
        }
    }
}
