/** The edges that promises 1 (a new object) and 2 (submit) name, a test for each. */
final class SubmitEdges {
    static void run(Check check) {
        noJobsAtFirst(check);
        noReservationsAtFirst(check);
        nothingElseAtFirst(check);
        objectsAreApart(check);
        userRange(check);
        orderRange(check);
        estimateRange(check);
        runRange(check);
        runIsBoundByTheEstimate(check);
        argumentsFarOutside(check);
        twentyFourthJobAndTheNext(check);
        jobsThatAreOverCountAmongTheTwentyFour(check);
        rangeIsCheckedBeforeTheTwentyFour(check);
        returnsThePromise(check);
        startsOnlyAtTheClock(check);
        lastFreeProcessor(check);
        noFreeProcessor(check);
        gapJustLongEnough(check);
        gapBeforeAReservation(check);
        notBeforeTheClock(check);
        atTheLastUnitOfTheClock(check);
    }

    /** "Creates a scheduler without jobs and reservations." */
    private static void noJobsAtFirst(Check check) {
        BuddyBlockScheduler x = new BuddyBlockScheduler();
        check.same("1: jobCount", x.jobCount(), 0);
        check.outside("1: state(0)", () -> x.state(0));
        check.outside("1: startTime(0)", () -> x.startTime(0));
        check.outside("1: firstProcessor(0)", () -> x.firstProcessor(0));
        check.outside("1: promise(0)", () -> x.promise(0));
        check.outside("1: finishTime(0)", () -> x.finishTime(0));
        check.outside("1: preemptions(0)", () -> x.preemptions(0));
        check.outside("1: waitTime(0)", () -> x.waitTime(0));
        check.outside("1: slowdown(0)", () -> x.slowdown(0));
        check.outside("1: cancel(0)", () -> x.cancel(0));
        check.outside("1: preempt(0, 0)", () -> x.preempt(0, 0));
        check.undefined("1: averageWait", x::averageWait);
        check.missing("1: busiestBlock", x::busiestBlock);
        check.same("1: makespan", x.makespan(), 0);
    }

    private static void noReservationsAtFirst(Check check) {
        BuddyBlockScheduler x = new BuddyBlockScheduler();
        check.outside("1: reservedProcessor(0)", () -> x.reservedProcessor(0));
        check.outside("1: cancelReservation(0)", () -> x.cancelReservation(0));
        check.same("1: refusal", x.refusal(), 0);
        check.same("1: freeProcessors(0)", x.freeProcessors(0), 32);
        for (int processor = 0; processor < 32; processor++) {
            check.same("1: ownerAt(" + processor + ", 0)", x.ownerAt(processor, 0), -1);
        }
    }

    private static void nothingElseAtFirst(Check check) {
        BuddyBlockScheduler x = new BuddyBlockScheduler();
        check.same("1: clock", x.clock(), 0);
        check.same("1: eventCount", x.eventCount(), 0);
        check.outside("1: event(0, 0)", () -> x.event(0, 0));
        check.refused("1: nothing is saved", x::restore);
        check.undefined("1: utilization", x::utilization);
        check.same("1: largestFree", x.largestFree(), 5);
        check.same("1: fragmentation", x.fragmentation(), 0.0);
        for (int user = 0; user < 4; user++) {
            check.same("1: usage(" + user + ")", x.usage(user), 0);
        }
        check.same("1: fairness is off", x.setFair(false), false);
    }

    private static void objectsAreApart(Check check) {
        BuddyBlockScheduler x = new BuddyBlockScheduler();
        BuddyBlockScheduler y = new BuddyBlockScheduler();
        x.submit(0, 5, 9, 9);
        x.reserve(5, 9, 9);
        x.setFair(true);
        x.advance(4);
        check.refused("1: refused on the one", () -> x.reserve(0, 3, 1));
        x.save();
        check.same("1: jobs of the other", y.jobCount(), 0);
        check.same("1: its clock", y.clock(), 0);
        check.same("1: its events", y.eventCount(), 0);
        check.same("1: its refusal", y.refusal(), 0);
        check.same("1: its starts", y.blockStarts(5, 0), 0);
        check.refused("1: its saved state", y::restore);
        check.same("1: its fairness", y.setFair(true), false);
        check.same("1: its processors", y.submit(0, 5, 1, 1), 0);
        check.same("1: its usage", y.usage(0), 0);
    }

    /** "the user, 0 to 3" */
    private static void userRange(Check check) {
        BuddyBlockScheduler x = new BuddyBlockScheduler();
        check.bad("2: user -1", () -> x.submit(-1, 0, 1, 1));
        check.bad("2: user 4", () -> x.submit(4, 0, 1, 1));
        check.same("2: no job yet", x.jobCount(), 0);
        check.same("2: user 0", x.submit(0, 0, 1, 1), 0);
        check.same("2: user 3", x.submit(3, 0, 1, 1), 0);
        check.same("2: two jobs", x.jobCount(), 2);
        x.advance(1);
        check.same("22: usage of user 0", x.usage(0), 1);
        check.same("22: usage of user 3", x.usage(3), 1);
    }

    /** "the order of the block, 0 to 5" */
    private static void orderRange(Check check) {
        BuddyBlockScheduler x = new BuddyBlockScheduler();
        check.bad("2: order -1", () -> x.submit(0, -1, 1, 1));
        check.bad("2: order 6", () -> x.submit(0, 6, 1, 1));
        check.same("2: no job yet", x.jobCount(), 0);
        check.same("2: order 0", x.submit(0, 0, 1, 1), 0);
        check.same("2: one processor", x.freeProcessors(0), 31);
        check.same("2: order 5", x.submit(0, 5, 1, 1), 1);
        check.same("2: all processors", x.freeProcessors(1), 0);
    }

    /** "the estimate, 1 to 40" */
    private static void estimateRange(Check check) {
        BuddyBlockScheduler x = new BuddyBlockScheduler();
        check.bad("2: estimate 0", () -> x.submit(0, 5, 0, 1));
        check.bad("2: estimate and running time 0", () -> x.submit(0, 5, 0, 0));
        check.bad("2: estimate 41", () -> x.submit(0, 5, 41, 1));
        check.bad("2: estimate and running time 41", () -> x.submit(0, 5, 41, 41));
        check.same("2: no job yet", x.jobCount(), 0);
        check.same("2: estimate 1", x.submit(0, 5, 1, 1), 0);
        check.same("24: makespan 1", x.makespan(), 1);
        check.same("2: estimate 40", x.submit(0, 5, 40, 1), 1);
        check.same("24: makespan 41", x.makespan(), 41);
    }

    /** "the running time, 1 to the estimate" */
    private static void runRange(Check check) {
        BuddyBlockScheduler x = new BuddyBlockScheduler();
        check.bad("2: running time 0", () -> x.submit(0, 5, 7, 0));
        check.bad("2: running time -1", () -> x.submit(0, 5, 7, -1));
        check.bad("2: running time 8 of 7", () -> x.submit(0, 5, 7, 8));
        check.same("2: no job yet", x.jobCount(), 0);
        check.same("2: running time 1", x.submit(0, 4, 7, 1), 0);
        check.same("2: running time 7 of 7", x.submit(0, 4, 7, 7), 0);
        check.same("3: the first tick", x.advance(1), 1);
        check.same("3: up to the sixth", x.advance(5), 0);
        check.same("3: the seventh", x.advance(1), 1);
    }

    private static void runIsBoundByTheEstimate(Check check) {
        BuddyBlockScheduler x = new BuddyBlockScheduler();
        check.bad("2: running time 2 of 1", () -> x.submit(0, 0, 1, 2));
        check.same("2: running time 1 of 1", x.submit(0, 0, 1, 1), 0);
        check.bad("2: running time 41 of 40", () -> x.submit(0, 0, 40, 41));
        check.same("2: running time 40 of 40", x.submit(0, 0, 40, 40), 0);
        check.same("2: running time 39 of 40", x.submit(0, 0, 40, 39), 0);
        check.same("3: those of 1 and 39", x.advance(39), 2);
        check.same("3: that of 40", x.advance(1), 1);
    }

    private static void argumentsFarOutside(Check check) {
        BuddyBlockScheduler x = new BuddyBlockScheduler();
        for (int far : new int[] {Integer.MIN_VALUE, Integer.MAX_VALUE, -32, 32, 64, 1 << 16}) {
            check.bad("2: user " + far, () -> x.submit(far, 0, 1, 1));
            check.bad("2: order " + far, () -> x.submit(0, far, 1, 1));
            check.bad("2: running time " + far, () -> x.submit(0, 0, 1, far));
        }
        for (int far : new int[] {Integer.MIN_VALUE, Integer.MAX_VALUE, -40, 64, 1 << 16}) {
            check.bad("2: estimate " + far, () -> x.submit(0, 0, far, 1));
            check.bad("2: estimate and running time " + far, () -> x.submit(0, 0, far, far));
        }
        check.same("2: no job", x.jobCount(), 0);
    }

    /** "IllegalStateException if there are 24 jobs" */
    private static void twentyFourthJobAndTheNext(Check check) {
        BuddyBlockScheduler x = new BuddyBlockScheduler();
        for (int job = 0; job < 23; job++) {
            x.submit(0, 0, 9, 9);
        }
        check.same("2: the 24th job", x.submit(3, 0, 9, 9), 0);
        check.same("12: jobCount", x.jobCount(), 24);
        check.same("13: its state", x.state(23), 1);
        check.refused("2: the 25th job", () -> x.submit(3, 0, 9, 9));
        check.same("12: still 24", x.jobCount(), 24);
        check.outside("13: there is no job 24", () -> x.state(24));
    }

    private static void jobsThatAreOverCountAmongTheTwentyFour(Check check) {
        BuddyBlockScheduler x = new BuddyBlockScheduler();
        for (int job = 0; job < 24; job++) {
            x.submit(0, 0, 1, 1);
        }
        x.cancel(23);
        check.refused("2: one is cancelled", () -> x.submit(0, 0, 1, 1));
        check.same("3: the others finish", x.advance(1), 23);
        check.refused("2: all are over", () -> x.submit(0, 0, 1, 1));
        check.same("26: and all is free", x.freeProcessors(1), 32);
    }

    private static void rangeIsCheckedBeforeTheTwentyFour(Check check) {
        BuddyBlockScheduler x = new BuddyBlockScheduler();
        for (int job = 0; job < 24; job++) {
            x.submit(0, 0, 1, 1);
        }
        check.bad("2: user -1 and 24 jobs", () -> x.submit(-1, 0, 1, 1));
        check.bad("2: user 4 and 24 jobs", () -> x.submit(4, 0, 1, 1));
        check.bad("2: order -1 and 24 jobs", () -> x.submit(0, -1, 1, 1));
        check.bad("2: order 6 and 24 jobs", () -> x.submit(0, 6, 1, 1));
        check.bad("2: estimate 0 and 24 jobs", () -> x.submit(0, 0, 0, 1));
        check.bad("2: estimate 41 and 24 jobs", () -> x.submit(0, 0, 41, 1));
        check.bad("2: running time 0 and 24 jobs", () -> x.submit(0, 0, 1, 0));
        check.bad("2: running time 2 of 1 and 24 jobs", () -> x.submit(0, 0, 1, 2));
        check.refused("2: only the 24 jobs", () -> x.submit(0, 0, 1, 1));
    }

    /** "the planned start, which is the promise of the job" */
    private static void returnsThePromise(Check check) {
        BuddyBlockScheduler x = new BuddyBlockScheduler();
        x.advance(3);
        check.same("2: starts at once", x.submit(0, 5, 8, 8), 3);
        check.same("16: its promise", x.promise(0), 3);
        check.same("2: waits", x.submit(0, 5, 8, 8), 11);
        check.same("16: its promise", x.promise(1), 11);
        check.same("14: its planned start", x.startTime(1), 11);
    }

    /** "each waiting job whose planned start is the clock becomes running" */
    private static void startsOnlyAtTheClock(Check check) {
        BuddyBlockScheduler x = new BuddyBlockScheduler();
        x.reserve(4, 0, 1);
        check.same("2: planned at the clock", x.submit(0, 4, 1, 1), 0);
        check.same("13: running", x.state(0), 1);
        check.same("2: planned one unit behind the clock", x.submit(0, 4, 1, 1), 1);
        check.same("13: waiting", x.state(1), 0);
    }

    private static void lastFreeProcessor(Check check) {
        BuddyBlockScheduler x = new BuddyBlockScheduler();
        for (int order = 4; order >= 0; order--) {
            x.submit(0, order, 9, 9);
        }
        check.same("26: one is free", x.freeProcessors(0), 1);
        check.same("2: two processors have to wait", x.submit(0, 1, 2, 2), 9);
        check.same("2: one processor", x.submit(0, 0, 9, 9), 0);
        check.same("15: the last one", x.firstProcessor(6), 31);
    }

    private static void noFreeProcessor(Check check) {
        BuddyBlockScheduler x = new BuddyBlockScheduler();
        x.submit(0, 4, 9, 9);
        x.submit(0, 4, 7, 7);
        check.same("26: none is free", x.freeProcessors(0), 0);
        check.same("2: behind the shorter one", x.submit(0, 0, 1, 1), 7);
        check.same("15: on its block", x.firstProcessor(2), 16);
    }

    /** "free for as many units as the estimate": the running time does not count. */
    private static void gapJustLongEnough(Check check) {
        BuddyBlockScheduler x = new BuddyBlockScheduler();
        x.submit(0, 4, 6, 6);
        x.submit(0, 5, 3, 3);
        check.same("2: one unit too long", x.submit(1, 3, 7, 1), 9);
        check.same("2: fits exactly", x.submit(1, 3, 6, 6), 0);
        check.same("14: the waiting job keeps its start", x.startTime(1), 6);
    }

    private static void gapBeforeAReservation(Check check) {
        BuddyBlockScheduler x = new BuddyBlockScheduler();
        x.reserve(5, 3, 2);
        check.same("2: up to the reservation", x.submit(0, 4, 3, 3), 0);
        check.same("2: one unit into it", x.submit(0, 4, 4, 1), 5);
        check.same("2: the other half, up to it", x.submit(0, 4, 3, 3), 0);
        check.same("15: the upper half", x.firstProcessor(2), 16);
    }

    /** "the earliest start that is not before the clock" */
    private static void notBeforeTheClock(Check check) {
        BuddyBlockScheduler x = new BuddyBlockScheduler();
        x.reserve(5, 5, 1);
        x.advance(2);
        check.same("2: three units from the clock on", x.submit(0, 5, 3, 3), 2);
        check.same("2: no gap any more", x.submit(0, 5, 1, 1), 6);
    }

    private static void atTheLastUnitOfTheClock(Check check) {
        BuddyBlockScheduler x = AdvanceEdges.atThousand();
        check.same("2: a job at 1000", x.submit(0, 5, 40, 40), 1000);
        check.same("13: it runs", x.state(0), 1);
        check.same("2: a job that is planned behind 1000", x.submit(0, 5, 40, 40), 1040);
        check.same("13: it waits", x.state(1), 0);
        check.same("24: makespan", x.makespan(), 1080);
    }
}
