/** The edges that promises 3 (advance) and 11 (clock) and the description's ticks name, a test for each. */
final class AdvanceEdges {
    static void run(Check check) {
        ticksRange(check);
        clockAtFirst(check);
        clockReachesThousand(check);
        stepBeyondThousand(check);
        noTickIsMadeBeyondThousand(check);
        rangeIsCheckedBeforeTheClock(check);
        noJobAtAll(check);
        finishesInTheLastTick(check);
        allTwentyFourFinish(check);
        startsAndFinishesWithinOneCall(check);
        finishesAtThousand(check);
        startsAtThousandAndNotBehindIt(check);
        finishedInTheOrderOfNumbers(check);
        startedInTheOrderOfNumbers(check);
        blockIsUsedAgainInTheSameTick(check);
        wholeEstimateIsHeld(check);
        replansOnlyIfAJobFinishes(check);
        ticksOneByOneOrAtOnce(check);
    }

    /** An object with the given clock, which is a multiple of 50 or up to 50 more than one. */
    static BuddyBlockScheduler at(int clock) {
        BuddyBlockScheduler x = new BuddyBlockScheduler();
        toClock(x, clock);
        return x;
    }

    static BuddyBlockScheduler atThousand() {
        return at(1000);
    }

    static void toClock(BuddyBlockScheduler x, int clock) {
        for (int now = x.clock(); now < clock; now += 50) {
            x.advance(Math.min(50, clock - now));
        }
    }

    /** "the number of ticks, 1 to 50" */
    private static void ticksRange(Check check) {
        BuddyBlockScheduler x = new BuddyBlockScheduler();
        for (int ticks : new int[] {0, -1, 51, -50, 1000, Integer.MIN_VALUE, Integer.MAX_VALUE}) {
            check.bad("3: advance(" + ticks + ")", () -> x.advance(ticks));
        }
        check.same("11: no tick was made", x.clock(), 0);
        check.same("3: advance(1)", x.advance(1), 0);
        check.same("11: after 1 tick", x.clock(), 1);
        check.same("3: advance(50)", x.advance(50), 0);
        check.same("11: after 51 ticks", x.clock(), 51);
    }

    /** "it is 0 at first and at most 1000" */
    private static void clockAtFirst(Check check) {
        check.same("11: at first", new BuddyBlockScheduler().clock(), 0);
    }

    private static void clockReachesThousand(Check check) {
        BuddyBlockScheduler x = at(950);
        check.same("3: advance(50) at 950", x.advance(50), 0);
        check.same("11: the greatest clock", x.clock(), 1000);
        BuddyBlockScheduler y = at(999);
        check.same("3: advance(1) at 999", y.advance(1), 0);
        check.same("11: the greatest clock", y.clock(), 1000);
    }

    /** "IllegalStateException if the clock would become greater than 1000" */
    private static void stepBeyondThousand(Check check) {
        BuddyBlockScheduler x = at(951);
        check.refused("3: advance(50) at 951", () -> x.advance(50));
        check.same("11: still 951", x.clock(), 951);
        check.same("3: advance(49) at 951", x.advance(49), 0);
        check.refused("3: advance(1) at 1000", () -> x.advance(1));
        check.refused("3: advance(50) at 1000", () -> x.advance(50));
        check.same("11: still 1000", x.clock(), 1000);
        BuddyBlockScheduler y = at(999);
        check.refused("3: advance(2) at 999", () -> y.advance(2));
        check.same("11: still 999", y.clock(), 999);
    }

    /** "If the clock would become too great, no tick is made." */
    private static void noTickIsMadeBeyondThousand(Check check) {
        BuddyBlockScheduler x = at(990);
        x.submit(0, 5, 5, 5);
        x.submit(0, 5, 5, 5);
        int events = x.eventCount();
        check.refused("3: advance(11) at 990", () -> x.advance(11));
        check.same("11: still 990", x.clock(), 990);
        check.same("13: not finished", x.state(0), 1);
        check.same("13: not started", x.state(1), 0);
        check.same("34: nothing recorded", x.eventCount(), events);
        check.same("22: nothing used", x.usage(0), 0);
        check.same("3: advance(10) at 990", x.advance(10), 2);
    }

    private static void rangeIsCheckedBeforeTheClock(Check check) {
        BuddyBlockScheduler x = atThousand();
        check.bad("3: 51 ticks at 1000", () -> x.advance(51));
        check.bad("3: 0 ticks at 1000", () -> x.advance(0));
        check.bad("3: -1 ticks at 1000", () -> x.advance(-1));
        check.bad("3: the most ticks at 1000", () -> x.advance(Integer.MAX_VALUE));
        check.bad("3: the fewest ticks at 1000", () -> x.advance(Integer.MIN_VALUE));
    }

    private static void noJobAtAll(Check check) {
        BuddyBlockScheduler x = new BuddyBlockScheduler();
        check.same("3: without jobs", x.advance(50), 0);
        check.same("34: no event", x.eventCount(), 0);
    }

    private static void finishesInTheLastTick(Check check) {
        BuddyBlockScheduler x = new BuddyBlockScheduler();
        x.submit(0, 0, 8, 5);
        x.submit(0, 0, 8, 6);
        check.same("3: up to the tick before", x.advance(4), 0);
        check.same("13: running", x.state(0), 1);
        check.same("3: the last tick", x.advance(1), 1);
        check.same("13: finished", x.state(0), 2);
        check.same("17: at 5", x.finishTime(0), 5);
        check.same("13: the longer one runs", x.state(1), 1);
        check.same("3: the next tick", x.advance(1), 1);
        check.same("17: at 6", x.finishTime(1), 6);
    }

    private static void allTwentyFourFinish(Check check) {
        BuddyBlockScheduler x = new BuddyBlockScheduler();
        for (int job = 0; job < 24; job++) {
            x.submit(0, 0, 40 - job, 1);
        }
        check.same("3: all in one tick", x.advance(1), 24);
        check.same("3: none is left", x.advance(1), 0);
        BuddyBlockScheduler y = new BuddyBlockScheduler();
        for (int job = 0; job < 24; job++) {
            y.submit(0, 5, 2, 2);
        }
        check.same("3: one behind the other", y.advance(48), 24);
    }

    private static void startsAndFinishesWithinOneCall(Check check) {
        BuddyBlockScheduler x = new BuddyBlockScheduler();
        x.reserve(5, 0, 3);
        x.submit(0, 5, 1, 1);
        check.same("3: starts at 3 and finishes at 4", x.advance(4), 1);
        check.same("17: at 4", x.finishTime(0), 4);
        check.same("19: started at 3", x.waitTime(0), 3);
    }

    private static void finishesAtThousand(Check check) {
        BuddyBlockScheduler x = at(999);
        x.submit(0, 0, 1, 1);
        x.submit(0, 0, 2, 2);
        check.same("3: the tick to 1000", x.advance(1), 1);
        check.same("17: at 1000", x.finishTime(0), 1000);
        check.same("13: the other one runs for ever", x.state(1), 1);
        check.refused("3: no more ticks", () -> x.advance(1));
    }

    private static void startsAtThousandAndNotBehindIt(Check check) {
        BuddyBlockScheduler x = at(999);
        x.reserve(5, 999, 1);
        check.same("2: planned at 1000", x.submit(0, 5, 1, 1), 1000);
        check.same("2: planned at 1001", x.submit(0, 5, 1, 1), 1001);
        x.advance(1);
        check.same("13: the first one runs", x.state(0), 1);
        check.same("13: the second one waits for ever", x.state(1), 0);
        check.same("14: its start", x.startTime(1), 1001);
    }

    /** "becomes finished, in the order of the numbers" */
    private static void finishedInTheOrderOfNumbers(Check check) {
        BuddyBlockScheduler x = new BuddyBlockScheduler();
        x.submit(0, 0, 5, 5);
        x.advance(2);
        x.submit(0, 0, 3, 3);
        x.submit(0, 1, 3, 3);
        x.advance(3);
        EventEdges.sameTail(check, "3: three in one tick", x, new int[][] {{5, 2, 0}, {5, 2, 1}, {5, 2, 2}});
    }

    /** Job 2 is planned before job 1 is, but starts behind it. */
    private static void startedInTheOrderOfNumbers(Check check) {
        BuddyBlockScheduler x = new BuddyBlockScheduler();
        x.submit(0, 5, 6, 2);
        x.reserve(5, 8, 1);
        check.same("2: does not fit before the reservation", x.submit(0, 4, 5, 5), 9);
        check.same("2: fits before it", x.submit(0, 4, 2, 2), 6);
        x.advance(2);
        EventEdges.sameTail(check, "3: moved by planned start, started by number", x,
                new int[][] {{2, 2, 0}, {2, 5, 2}, {2, 5, 1}, {2, 1, 1}, {2, 1, 2}});
    }

    private static void blockIsUsedAgainInTheSameTick(Check check) {
        BuddyBlockScheduler x = new BuddyBlockScheduler();
        x.submit(0, 5, 3, 3);
        x.submit(0, 5, 3, 3);
        x.advance(3);
        check.same("13: the first one is finished", x.state(0), 2);
        check.same("13: the second one runs", x.state(1), 1);
        check.same("14: from 3 on", x.startTime(1), 3);
        EventEdges.sameTail(check, "3: it kept its start", x, new int[][] {{0, 0, 1}, {3, 2, 0}, {3, 1, 1}});
    }

    /** "A running job holds its block for its whole estimate." */
    private static void wholeEstimateIsHeld(Check check) {
        BuddyBlockScheduler x = new BuddyBlockScheduler();
        x.submit(0, 5, 9, 4);
        check.same("25: its last unit", x.ownerAt(0, 8), 0);
        check.same("25: behind it", x.ownerAt(0, 9), -1);
        x.advance(3);
        check.same("25: still", x.ownerAt(31, 8), 0);
        check.same("30: nothing is free before", x.earliestStart(0, 1), 9);
        x.advance(1);
        check.same("30: it has finished", x.earliestStart(0, 1), 4);
    }

    /** "If at least one job becomes finished, the waiting jobs are replanned." */
    private static void replansOnlyIfAJobFinishes(Check check) {
        BuddyBlockScheduler x = new BuddyBlockScheduler();
        x.submit(0, 4, 12, 12);
        x.submit(0, 4, 7, 7);
        x.submit(0, 4, 10, 10);
        x.submit(0, 4, 2, 2);
        x.advance(4);
        x.cancel(0);
        check.same("14: the long one does not fit yet", x.startTime(2), 7);
        check.same("14: the short one starts", x.startTime(3), 4);
        check.same("3: nothing finishes at 5", x.advance(1), 0);
        check.same("14: nothing is replanned", x.startTime(2), 7);
        check.same("3: the short one finishes at 6", x.advance(1), 1);
        check.same("14: the long one is replanned", x.startTime(2), 6);
    }

    private static void ticksOneByOneOrAtOnce(Check check) {
        Calls jobs = x -> {
            x.submit(0, 4, 9, 5);
            x.submit(1, 5, 7, 7);
            x.submit(2, 3, 12, 3);
            x.submit(3, 4, 20, 20);
        };
        Calls oneByOne = x -> {
            for (int i = 0; i < 20; i++) {
                x.advance(1);
            }
        };
        check.sameLines("3: twenty ticks", Answers.after(jobs.then(oneByOne)), Answers.after(jobs.then(x -> x.advance(20))));
    }
}
