/** The edges that promises 5 (preempt) and 18 (preemptions) name, a test for each. */
final class PreemptEdges {
    static void run(Check check) {
        jobRange(check);
        costRange(check);
        jobIsCheckedBeforeTheCost(check);
        costIsCheckedBeforeTheState(check);
        jobsThatDoNotRun(check);
        preemptedJobThatWaits(check);
        inTheUnitOfItsStart(check);
        oneUnitAfterItsStart(check);
        inItsLastUnit(check);
        estimateAndRunningTimeApart(check);
        unitsSinceTheLastStart(check);
        estimateFortyOne(check);
        estimateFarBeyondForty(check);
        returnsTheClockIfNobodyWaits(check);
        waitingJobsComeFirst(check);
        keepsItsTurnBehindAJobThatDoesNotFit(check);
        ownPlanningIsNoMoving(check);
        eventsInOrder(check);
        promiseStays(check);
        usageBeforeTheReplanningCounts(check);
        countOfPreemptions(check);
        atThousand(check);
    }

    /** "IndexOutOfBoundsException if there is no such job" */
    private static void jobRange(Check check) {
        BuddyBlockScheduler none = new BuddyBlockScheduler();
        check.outside("5: preempt(0, 0) without jobs", () -> none.preempt(0, 0));
        BuddyBlockScheduler x = new BuddyBlockScheduler();
        x.submit(0, 0, 9, 9);
        x.submit(0, 0, 9, 9);
        for (int job : new int[] {-1, 2, 23, 24, Integer.MIN_VALUE, Integer.MAX_VALUE}) {
            check.outside("5: preempt(" + job + ", 0) of 2 jobs", () -> x.preempt(job, 0));
        }
        check.same("5: preempt(0, 0)", x.preempt(0, 0), 0);
        check.same("5: preempt(1, 0)", x.preempt(1, 0), 0);
        BuddyBlockScheduler full = new BuddyBlockScheduler();
        for (int job = 0; job < 24; job++) {
            full.submit(0, 0, 9, 9);
        }
        check.outside("5: preempt(24, 0) of 24 jobs", () -> full.preempt(24, 0));
        check.same("5: preempt(23, 0) of 24 jobs", full.preempt(23, 0), 0);
    }

    /** "the cost, 0 to 9" */
    private static void costRange(Check check) {
        BuddyBlockScheduler x = new BuddyBlockScheduler();
        x.submit(0, 0, 5, 5);
        for (int cost : new int[] {-1, 10, 100, Integer.MIN_VALUE, Integer.MAX_VALUE}) {
            check.bad("5: cost " + cost, () -> x.preempt(0, cost));
        }
        check.same("18: not preempted", x.preemptions(0), 0);
        check.same("5: cost 0", x.preempt(0, 0), 0);
        check.same("24: estimate 5", x.makespan(), 5);
        check.same("5: cost 9", x.preempt(0, 9), 0);
        check.same("24: estimate 14", x.makespan(), 14);
    }

    private static void jobIsCheckedBeforeTheCost(Check check) {
        BuddyBlockScheduler x = new BuddyBlockScheduler();
        check.outside("5: no job and cost 10", () -> x.preempt(0, 10));
        x.submit(0, 0, 5, 5);
        check.outside("5: job -1 and cost -1", () -> x.preempt(-1, -1));
        check.outside("5: job -1 and cost 10", () -> x.preempt(-1, 10));
        check.outside("5: job 1 and cost -1", () -> x.preempt(1, -1));
        check.outside("5: job 1 and cost 10", () -> x.preempt(1, 10));
    }

    private static void costIsCheckedBeforeTheState(Check check) {
        BuddyBlockScheduler x = new BuddyBlockScheduler();
        x.submit(0, 5, 5, 1);
        x.submit(0, 5, 5, 5);
        x.submit(0, 5, 5, 5);
        x.submit(0, 5, 5, 5);
        x.advance(1);
        x.cancel(3);
        check.bad("5: a finished job and cost 10", () -> x.preempt(0, 10));
        check.bad("5: a finished job and cost -1", () -> x.preempt(0, -1));
        check.bad("5: a waiting job and cost 10", () -> x.preempt(2, 10));
        check.bad("5: a waiting job and cost -1", () -> x.preempt(2, -1));
        check.bad("5: a cancelled job and cost 10", () -> x.preempt(3, 10));
        check.bad("5: a cancelled job and cost -1", () -> x.preempt(3, -1));
    }

    /** "IllegalStateException if the job is not running" */
    private static void jobsThatDoNotRun(Check check) {
        BuddyBlockScheduler x = new BuddyBlockScheduler();
        x.submit(0, 5, 5, 1);
        x.submit(0, 5, 5, 5);
        x.submit(0, 5, 5, 5);
        x.submit(0, 5, 5, 5);
        x.advance(1);
        x.cancel(3);
        check.refused("5: a finished job", () -> x.preempt(0, 0));
        check.refused("5: a waiting job", () -> x.preempt(2, 0));
        check.refused("5: a cancelled job", () -> x.preempt(3, 9));
        check.same("5: a running job", x.preempt(1, 0), 6);
    }

    private static void preemptedJobThatWaits(Check check) {
        BuddyBlockScheduler x = new BuddyBlockScheduler();
        x.submit(0, 5, 5, 5);
        x.submit(0, 5, 5, 5);
        check.same("5: the other one goes first", x.preempt(0, 0), 5);
        check.refused("5: it waits now", () -> x.preempt(0, 0));
        check.same("18: preempted once", x.preemptions(0), 1);
    }

    /** "A job that is preempted in the unit in which it was started is reduced by 0." */
    private static void inTheUnitOfItsStart(Check check) {
        BuddyBlockScheduler x = new BuddyBlockScheduler();
        x.advance(3);
        x.submit(0, 0, 6, 4);
        check.same("5: at once", x.preempt(0, 0), 3);
        check.same("24: estimate 6", x.makespan(), 9);
        check.same("22: no usage", x.usage(0), 0);
        check.same("3: running time 4", x.advance(3), 0);
        check.same("3: finishes at 7", x.advance(1), 1);
        check.same("22: four units", x.usage(0), 4);
    }

    private static void oneUnitAfterItsStart(Check check) {
        BuddyBlockScheduler x = new BuddyBlockScheduler();
        x.submit(0, 0, 6, 4);
        x.advance(1);
        check.same("5: reduced by 1", x.preempt(0, 0), 1);
        check.same("24: estimate 5", x.makespan(), 6);
        check.same("3: running time 3", x.advance(2), 0);
        check.same("3: finishes at 4", x.advance(1), 1);
    }

    private static void inItsLastUnit(Check check) {
        BuddyBlockScheduler x = new BuddyBlockScheduler();
        x.submit(0, 0, 4, 4);
        x.advance(3);
        check.same("5: one unit is left", x.preempt(0, 0), 3);
        check.same("24: estimate 1", x.makespan(), 4);
        check.same("3: running time 1", x.advance(1), 1);
        check.same("17: at 4", x.finishTime(0), 4);
    }

    /** Both are reduced, and both are increased by the cost. */
    private static void estimateAndRunningTimeApart(Check check) {
        BuddyBlockScheduler x = new BuddyBlockScheduler();
        x.submit(0, 0, 40, 3);
        x.advance(2);
        check.same("5: cost 9", x.preempt(0, 9), 2);
        check.same("24: estimate 47", x.makespan(), 49);
        check.same("3: running time 10", x.advance(9), 0);
        check.same("3: finishes at 12", x.advance(1), 1);
        check.same("21: by the running time 3", x.slowdown(0), 4.0f);
    }

    /** "the number of units since it was started last" */
    private static void unitsSinceTheLastStart(Check check) {
        BuddyBlockScheduler x = new BuddyBlockScheduler();
        x.submit(0, 0, 10, 10);
        x.advance(4);
        x.preempt(0, 0);
        x.advance(1);
        check.same("5: reduced by 1, not by 5", x.preempt(0, 2), 5);
        check.same("24: estimate 7", x.makespan(), 12);
        check.same("3: running time 7", x.advance(6), 0);
        check.same("3: finishes at 12", x.advance(1), 1);
        check.same("22: twelve units", x.usage(0), 12);
    }

    /** "An estimate can become greater than 40 by preemptions" */
    private static void estimateFortyOne(Check check) {
        BuddyBlockScheduler x = new BuddyBlockScheduler();
        x.submit(0, 5, 40, 40);
        check.same("5: cost 1", x.preempt(0, 1), 0);
        check.same("24: estimate 41", x.makespan(), 41);
        check.same("25: its last unit", x.ownerAt(31, 40), 0);
        check.same("25: behind it", x.ownerAt(31, 41), -1);
        check.same("30: behind it", x.earliestStart(0, 40), 41);
        check.same("3: up to 40", x.advance(40), 0);
        check.same("3: finishes at 41", x.advance(1), 1);
    }

    private static void estimateFarBeyondForty(Check check) {
        BuddyBlockScheduler x = new BuddyBlockScheduler();
        x.submit(0, 5, 40, 40);
        for (int i = 0; i < 300; i++) {
            x.preempt(0, 9);
        }
        check.same("24: estimate 2740", x.makespan(), 2740);
        check.same("18: three hundred", x.preemptions(0), 300);
        check.same("2: planned behind unit 1000", x.submit(0, 0, 1, 1), 2740);
        check.same("25: the last unit", x.ownerAt(31, 2739), 0);
        check.same("25: behind it", x.ownerAt(0, 2740), 1);
        check.same("32: each start counts", x.blockStarts(5, 0), 301);
    }

    /** "Returns the new planned start." */
    private static void returnsTheClockIfNobodyWaits(Check check) {
        BuddyBlockScheduler x = new BuddyBlockScheduler();
        x.submit(0, 5, 8, 8);
        x.advance(5);
        check.same("5: starts again at once", x.preempt(0, 3), 5);
        check.same("13: running", x.state(0), 1);
        check.same("14: from now on", x.startTime(0), 5);
    }

    /** "The waiting jobs are replanned; then the preempted job becomes waiting and is planned" */
    private static void waitingJobsComeFirst(Check check) {
        BuddyBlockScheduler x = new BuddyBlockScheduler();
        x.submit(0, 5, 8, 8);
        x.submit(0, 5, 2, 2);
        x.submit(0, 5, 3, 3);
        x.advance(1);
        check.same("5: behind both", x.preempt(0, 0), 6);
        check.same("14: the first one", x.startTime(1), 1);
        check.same("13: it runs", x.state(1), 1);
        check.same("14: the second one", x.startTime(2), 3);
        check.same("13: the preempted one waits", x.state(0), 0);
        check.same("14: its planned start", x.startTime(0), 6);
    }

    private static void keepsItsTurnBehindAJobThatDoesNotFit(Check check) {
        BuddyBlockScheduler x = new BuddyBlockScheduler();
        x.submit(0, 4, 8, 8);
        x.submit(0, 4, 9, 9);
        x.submit(0, 5, 2, 2);
        x.advance(1);
        check.same("5: back on its block, before the large one", x.preempt(0, 0), 1);
        check.same("14: the large one", x.startTime(2), 9);
        x.advance(1);
        check.same("5: too long for the gap now", x.preempt(0, 2), 11);
        check.same("14: the large one keeps its start", x.startTime(2), 9);
    }

    /** "its own planning is no moving" */
    private static void ownPlanningIsNoMoving(Check check) {
        BuddyBlockScheduler x = new BuddyBlockScheduler();
        x.submit(0, 5, 8, 8);
        x.advance(2);
        x.preempt(0, 0);
        EventEdges.sameTail(check, "5: started again", x, new int[][] {{0, 1, 0}, {2, 4, 0}, {2, 1, 0}});
        x.submit(0, 5, 3, 3);
        x.advance(1);
        x.preempt(0, 0);
        EventEdges.sameTail(check, "5: planned later", x, new int[][] {{3, 4, 0}, {3, 5, 1}, {3, 1, 1}});
    }

    /** "its event comes first, then those of moved jobs, then those of started ones", by number. */
    private static void eventsInOrder(Check check) {
        BuddyBlockScheduler x = new BuddyBlockScheduler();
        x.reserve(4, 0, 2);
        x.reserve(4, 6, 10);
        check.same("2: beside the reservations", x.submit(0, 4, 6, 6), 0);
        check.same("2: behind the job", x.submit(0, 4, 9, 9), 6);
        x.advance(4);
        check.same("5: fits between the reservations now", x.preempt(0, 0), 4);
        EventEdges.sameTail(check, "5: events", x, new int[][] {{4, 4, 0}, {4, 5, 1}, {4, 1, 0}, {4, 1, 1}});
        check.same("15: the preempted one", x.firstProcessor(0), 0);
        check.same("15: the moved one", x.firstProcessor(1), 16);
    }

    /** "and its promise stays" */
    private static void promiseStays(Check check) {
        BuddyBlockScheduler x = new BuddyBlockScheduler();
        x.submit(0, 5, 4, 4);
        x.submit(0, 5, 9, 9);
        x.submit(0, 5, 3, 3);
        x.advance(6);
        check.same("5: waits for the third", x.preempt(1, 1), 9);
        check.same("16: promise", x.promise(1), 4);
        check.same("19: the first start counts", x.waitTime(1), 4);
        x.advance(3);
        check.same("14: started again", x.startTime(1), 9);
        check.same("16: promise later", x.promise(1), 4);
        check.same("19: the first start counts later", x.waitTime(1), 4);
    }

    /** The preempted job's units are its user's usage already when the others are taken. */
    private static void usageBeforeTheReplanningCounts(Check check) {
        BuddyBlockScheduler x = new BuddyBlockScheduler();
        x.setFair(true);
        x.submit(0, 5, 20, 20);
        x.submit(0, 5, 4, 4);
        x.submit(1, 5, 4, 4);
        x.advance(2);
        x.preempt(0, 0);
        check.same("5: the user without usage is first", x.startTime(2), 2);
        check.same("5: then the other one", x.startTime(1), 6);
        check.same("5: then the preempted job", x.startTime(0), 10);
    }

    /** "Returns how often a job was preempted." */
    private static void countOfPreemptions(Check check) {
        BuddyBlockScheduler x = new BuddyBlockScheduler();
        check.outside("18: no job", () -> x.preemptions(0));
        x.submit(0, 0, 5, 5);
        x.submit(0, 0, 5, 5);
        for (int job : new int[] {-1, 2, 24, Integer.MIN_VALUE, Integer.MAX_VALUE}) {
            check.outside("18: preemptions(" + job + ")", () -> x.preemptions(job));
        }
        check.same("18: none", x.preemptions(0), 0);
        x.preempt(1, 0);
        x.advance(1);
        x.preempt(1, 0);
        check.same("18: two", x.preemptions(1), 2);
        check.same("18: none of the other", x.preemptions(0), 0);
        x.advance(9);
        check.same("18: of a finished job", x.preemptions(1), 2);
    }

    private static void atThousand(Check check) {
        BuddyBlockScheduler x = AdvanceEdges.at(999);
        x.submit(0, 5, 9, 9);
        x.advance(1);
        check.same("5: at 1000", x.preempt(0, 9), 1000);
        check.same("13: it runs", x.state(0), 1);
        check.same("24: estimate 17", x.makespan(), 1017);
        x.submit(0, 5, 3, 3);
        check.same("5: behind another one", x.preempt(0, 0), 1003);
        check.same("13: it waits for ever", x.state(0), 0);
    }
}
