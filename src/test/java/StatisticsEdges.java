/** The edges that promises 20 (averageWait), 22 (usage), 23 (utilization) and 24 (makespan) name. */
final class StatisticsEdges {
    static void run(Check check) {
        averageWithoutJobs(check);
        averageWithoutStarts(check);
        averageOfOne(check);
        averageCountsOnlyStartedJobs(check);
        averageCountsEachJobOnce(check);
        averageOfTwentyFour(check);
        userRange(check);
        usageLeavesTheCurrentUnitOut(check);
        usageInAllStates(check);
        usageIsByProcessors(check);
        usageAtItsGreatest(check);
        utilizationAtZero(check);
        utilizationAtOne(check);
        utilizationWithoutJobs(check);
        utilizationOfAllProcessors(check);
        utilizationLeavesReservationsOut(check);
        makespanWithoutJobs(check);
        makespanIsTheFirstUnitBehindAll(check);
        makespanIsAtLeastTheClock(check);
        makespanLeavesReservationsOut(check);
        makespanOfTheLatestOfAll(check);
        makespanBehindThousand(check);
    }

    /** "ArithmeticException if no job was started" */
    private static void averageWithoutJobs(Check check) {
        BuddyBlockScheduler x = new BuddyBlockScheduler();
        check.undefined("20: no job", x::averageWait);
        x.advance(50);
        check.undefined("20: no job at 50", x::averageWait);
    }

    private static void averageWithoutStarts(Check check) {
        BuddyBlockScheduler x = new BuddyBlockScheduler();
        x.reserve(5, 0, 2);
        x.submit(0, 5, 1, 1);
        x.submit(0, 5, 1, 1);
        check.undefined("20: jobs that wait", x::averageWait);
        x.cancel(0);
        check.undefined("20: a job that was cancelled before its start", x::averageWait);
        x.advance(1);
        check.undefined("20: one unit before the first start", x::averageWait);
        x.advance(1);
        check.same("20: the first start", x.averageWait(), 2.0);
    }

    private static void averageOfOne(Check check) {
        BuddyBlockScheduler x = new BuddyBlockScheduler();
        x.submit(0, 5, 3, 3);
        check.same("20: no waiting", x.averageWait(), 0.0);
        x.cancel(0);
        check.same("20: cancelled", x.averageWait(), 0.0);
    }

    /** "all jobs that were started at least once" */
    private static void averageCountsOnlyStartedJobs(Check check) {
        BuddyBlockScheduler x = new BuddyBlockScheduler();
        x.submit(0, 5, 3, 3);
        x.submit(0, 5, 4, 4);
        x.submit(0, 5, 3, 3);
        check.same("20: one of three", x.averageWait(), 0.0);
        x.advance(3);
        check.same("20: two of three", x.averageWait(), 1.5);
        x.advance(4);
        check.same("20: three", x.averageWait(), 10.0 / 3.0);
        x.cancel(2);
        check.same("20: three still", x.averageWait(), 10.0 / 3.0);
    }

    private static void averageCountsEachJobOnce(Check check) {
        BuddyBlockScheduler x = new BuddyBlockScheduler();
        x.submit(0, 4, 3, 3);
        x.submit(0, 5, 9, 9);
        x.advance(4);
        x.preempt(1, 0);
        x.preempt(1, 0);
        check.same("20: started three times", x.averageWait(), 1.5);
    }

    private static void averageOfTwentyFour(Check check) {
        BuddyBlockScheduler x = new BuddyBlockScheduler();
        for (int job = 0; job < 24; job++) {
            x.submit(0, 5, 1, 1);
        }
        x.advance(22);
        check.same("20: 23 jobs", x.averageWait(), 253.0 / 23.0);
        x.advance(1);
        check.same("20: 24 jobs", x.averageWait(), 276.0 / 24.0);
    }

    /** "the user, 0 to 3" */
    private static void userRange(Check check) {
        BuddyBlockScheduler x = new BuddyBlockScheduler();
        for (int user : new int[] {-1, 4, 5, 100, Integer.MIN_VALUE, Integer.MAX_VALUE}) {
            check.outside("22: usage(" + user + ")", () -> x.usage(user));
        }
        x.submit(0, 0, 9, 9);
        x.submit(3, 2, 9, 9);
        x.advance(2);
        check.same("22: usage(0)", x.usage(0), 2);
        check.same("22: usage(1)", x.usage(1), 0);
        check.same("22: usage(2)", x.usage(2), 0);
        check.same("22: usage(3)", x.usage(3), 8);
        check.outside("22: usage(-1) with jobs", () -> x.usage(-1));
        check.outside("22: usage(4) with jobs", () -> x.usage(4));
    }

    /** "up to now, not counting the current unit" */
    private static void usageLeavesTheCurrentUnitOut(Check check) {
        BuddyBlockScheduler x = new BuddyBlockScheduler();
        x.submit(1, 3, 3, 2);
        check.same("22: in its first unit", x.usage(1), 0);
        x.advance(1);
        check.same("22: in its second unit", x.usage(1), 8);
        x.advance(1);
        check.same("22: finished", x.usage(1), 16);
        x.advance(1);
        check.same("22: and later", x.usage(1), 16);
    }

    /** "the sum of the usages of all their jobs, in all states" */
    private static void usageInAllStates(Check check) {
        BuddyBlockScheduler x = new BuddyBlockScheduler();
        x.submit(1, 0, 9, 1);
        x.submit(1, 1, 9, 9);
        x.submit(1, 2, 9, 9);
        x.submit(1, 4, 9, 9);
        x.submit(1, 5, 9, 9);
        x.advance(2);
        x.cancel(1);
        check.same("22: all of them", x.usage(1), 1 + 4 + 8 + 32);
        check.same("5: back at once", x.preempt(3, 0), 2);
        x.advance(1);
        check.same("22: the cancelled one stays", x.usage(1), 1 + 4 + 12 + 48);
    }

    /** "the number of its processors times the number of units" */
    private static void usageIsByProcessors(Check check) {
        for (int order = 0; order < 6; order++) {
            BuddyBlockScheduler x = new BuddyBlockScheduler();
            x.submit(2, order, 40, 40);
            x.advance(39);
            check.same("22: order " + order, x.usage(2), 39 << order);
            x.advance(1);
            check.same("22: order " + order + " finished", x.usage(2), 40 << order);
        }
    }

    private static void usageAtItsGreatest(Check check) {
        BuddyBlockScheduler x = new BuddyBlockScheduler();
        x.submit(3, 5, 40, 40);
        for (int i = 0; i < 120; i++) {
            x.preempt(0, 9);
        }
        AdvanceEdges.toClock(x, 1000);
        check.same("22: all processors in all units", x.usage(3), 32000);
        check.same("23: all processors in all units", x.utilization(), 1.0);
    }

    /** "ArithmeticException if the clock is 0" */
    private static void utilizationAtZero(Check check) {
        BuddyBlockScheduler x = new BuddyBlockScheduler();
        check.undefined("23: at 0", x::utilization);
        x.submit(0, 5, 3, 3);
        check.undefined("23: at 0 with a job", x::utilization);
        x.cancel(0);
        check.undefined("23: at 0 with a cancelled job", x::utilization);
    }

    private static void utilizationAtOne(Check check) {
        BuddyBlockScheduler x = new BuddyBlockScheduler();
        x.submit(0, 0, 3, 3);
        x.advance(1);
        check.same("23: one processor at 1", x.utilization(), 1.0 / 32.0);
    }

    private static void utilizationWithoutJobs(Check check) {
        BuddyBlockScheduler x = new BuddyBlockScheduler();
        x.advance(1);
        check.same("23: at 1", x.utilization(), 0.0);
        AdvanceEdges.toClock(x, 1000);
        check.same("23: at 1000", x.utilization(), 0.0);
        x.submit(0, 5, 9, 9);
        check.same("23: at 1000 with a job", x.utilization(), 0.0);
    }

    private static void utilizationOfAllProcessors(Check check) {
        BuddyBlockScheduler x = new BuddyBlockScheduler();
        x.submit(0, 4, 3, 3);
        x.submit(1, 4, 3, 3);
        x.advance(3);
        check.same("23: all", x.utilization(), 1.0);
        x.advance(4);
        check.same("23: 96 of 224", x.utilization(), 96.0 / 224.0);
    }

    private static void utilizationLeavesReservationsOut(Check check) {
        BuddyBlockScheduler x = new BuddyBlockScheduler();
        x.reserve(5, 0, 9);
        x.advance(9);
        check.same("23: a reservation is no usage", x.utilization(), 0.0);
    }

    private static void makespanWithoutJobs(Check check) {
        BuddyBlockScheduler x = new BuddyBlockScheduler();
        check.same("24: at 0", x.makespan(), 0);
        x.advance(7);
        check.same("24: at 7", x.makespan(), 7);
    }

    /** "the first unit from which on no job has an allocation any more" */
    private static void makespanIsTheFirstUnitBehindAll(Check check) {
        BuddyBlockScheduler x = new BuddyBlockScheduler();
        x.submit(0, 5, 7, 3);
        check.same("24: the whole estimate", x.makespan(), 7);
        check.same("25: the unit before", x.ownerAt(0, 6), 0);
        check.same("25: that unit", x.ownerAt(0, 7), -1);
        x.submit(0, 5, 1, 1);
        check.same("24: a waiting job", x.makespan(), 8);
    }

    /** "but at least the clock" */
    private static void makespanIsAtLeastTheClock(Check check) {
        BuddyBlockScheduler x = new BuddyBlockScheduler();
        x.submit(0, 5, 7, 3);
        x.advance(2);
        check.same("24: it runs", x.makespan(), 7);
        x.advance(1);
        check.same("24: it has finished", x.makespan(), 3);
        x.submit(0, 5, 7, 7);
        x.advance(1);
        x.cancel(1);
        check.same("24: the other one is cancelled", x.makespan(), 4);
        x.advance(1);
        check.same("24: later", x.makespan(), 5);
    }

    /** "Reservations do not count for the makespan." */
    private static void makespanLeavesReservationsOut(Check check) {
        BuddyBlockScheduler x = new BuddyBlockScheduler();
        for (int i = 0; i < 6; i++) {
            x.reserve(5, 100 * i, 40);
        }
        check.same("24: six reservations", x.makespan(), 0);
        x.submit(0, 5, 1, 1);
        check.same("24: a job between them", x.makespan(), 41);
    }

    private static void makespanOfTheLatestOfAll(Check check) {
        BuddyBlockScheduler x = new BuddyBlockScheduler();
        for (int job = 0; job < 24; job++) {
            x.submit(0, 0, 1 + (job * 7) % 24, 1);
        }
        check.same("24: the longest of 24", x.makespan(), 24);
        BuddyBlockScheduler y = new BuddyBlockScheduler();
        for (int job = 0; job < 24; job++) {
            y.submit(0, 5, 40, 40);
        }
        check.same("24: the last of 24", y.makespan(), 960);
        y.cancel(23);
        check.same("24: the last of 23", y.makespan(), 920);
    }

    private static void makespanBehindThousand(Check check) {
        BuddyBlockScheduler x = AdvanceEdges.atThousand();
        check.same("24: the clock", x.makespan(), 1000);
        x.submit(0, 5, 1, 1);
        check.same("24: a job at 1000", x.makespan(), 1001);
        for (int job = 1; job < 24; job++) {
            x.submit(0, 5, 40, 40);
        }
        check.same("24: 23 jobs behind it", x.makespan(), 1921);
    }
}
