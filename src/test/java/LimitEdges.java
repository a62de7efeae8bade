/** The limits that the description names and no single promise: calls, processors, times, allocations. */
final class LimitEdges {
    static void run(Check check) {
        lastOfFiveHundredAndTwelveCalls(check);
        fiveHundredAndTwelveChanges(check);
        allProcessorsByJobsAndReservations(check);
        neighboursInTimeAndSpace(check);
        allocationsNeverMeet(check);
        largestPlan(check);
        lastsOfManyPreemptions(check);
        changesOnlyByCallsThatChange(check);
    }

    /** "An object is used for at most 512 calls after it has been made" */
    private static void lastOfFiveHundredAndTwelveCalls(Check check) {
        BuddyBlockScheduler x = new BuddyBlockScheduler();
        x.submit(0, 3, 40, 40);
        for (int call = 2; call < 512; call++) {
            check.same("13: call " + call, x.state(0), 1);
        }
        check.same("3: call 512", x.advance(40), 1);
    }

    /** The clock stands at 250 behind it, and 60 of 1022 events are there. */
    private static void fiveHundredAndTwelveChanges(Check check) {
        BuddyBlockScheduler x = new BuddyBlockScheduler();
        x.submit(0, 5, 40, 40);
        for (int i = 1; i <= 250; i++) {
            check.same("3: tick " + i, x.advance(1), 0);
            check.same("5: preemption " + i, x.preempt(0, 9), i);
        }
        check.same("18: call 502", x.preemptions(0), 250);
        check.same("24: call 503", x.makespan(), 250 + 40 + 250 * 8);
        check.same("22: call 504", x.usage(0), 250 * 32);
        check.same("23: call 505", x.utilization(), 1.0);
        check.same("32: call 506", x.blockStarts(5, 0), 251);
        check.same("33: call 507", x.busiestBlock(), 500);
        check.same("34: call 508", x.eventCount(), 60);
        check.same("35: call 509", x.event(0, 0), 221);
        check.same("35: call 510", x.event(59, 0), 250);
        check.same("19: call 511", x.waitTime(0), 0);
        check.same("30: call 512", x.earliestStart(0, 1), 2290);
    }

    /** 24 processors with a job each, and six blocks of reservations on some of the others. */
    private static void allProcessorsByJobsAndReservations(Check check) {
        BuddyBlockScheduler x = new BuddyBlockScheduler();
        for (int job = 0; job < 24; job++) {
            check.same("2: job " + job, x.submit(0, 0, 5, 5), 0);
        }
        for (int i = 0; i < 6; i++) {
            check.same("6: reservation " + i, x.reserve(i < 2 ? 1 : 0, 4, 1), i);
        }
        check.same("26: all are taken in unit 4", x.freeProcessors(4), 0);
        for (int processor = 0; processor < 32; processor++) {
            int due = processor < 24 ? processor : processor < 28 ? 88 + processor / 2 : 74 + processor;
            check.same("25: processor " + processor, x.ownerAt(processor, 4), due);
        }
        check.same("26: not in unit 5", x.freeProcessors(5), 32);
    }

    /** "no allocation has a common processor with the block and a common unit with the interval" */
    private static void neighboursInTimeAndSpace(Check check) {
        BuddyBlockScheduler x = new BuddyBlockScheduler();
        check.same("6: units 10 to 14 of processors 0 to 7", x.reserve(3, 10, 5), 0);
        check.same("31: up to it", x.lowestBlock(3, 5, 5), 0);
        check.same("31: its first unit", x.lowestBlock(3, 5, 6), 8);
        check.same("31: its last unit", x.lowestBlock(3, 14, 5), 8);
        check.same("31: from its end on", x.lowestBlock(3, 15, 5), 0);
        check.same("31: within it", x.lowestBlock(3, 12, 1), 8);
        check.same("31: round it", x.lowestBlock(3, 5, 15), 8);
        check.same("31: a larger block", x.lowestBlock(4, 12, 1), 16);
        check.same("31: a smaller block", x.lowestBlock(0, 12, 1), 8);
        check.missing("31: the block of all", () -> x.lowestBlock(5, 12, 1));
    }

    /**
     * "Two allocations never have both a common processor and a common unit": then as many processors
     * are taken, over all units, as the jobs and the reservations need one by one.
     */
    private static void allocationsNeverMeet(Check check) {
        BuddyBlockScheduler x = new BuddyBlockScheduler();
        int needed = 0;
        for (int i = 0; i < 6; i++) {
            x.reserve(i, 7 * i, 5);
            needed += 5 << i;
        }
        for (int job = 0; job < 24; job++) {
            int order = job * 5 % 6;
            int estimate = 1 + job * 7 % 11;
            x.submit(job % 4, order, estimate, estimate);
            needed += estimate << order;
        }
        check.same("26: all 30 allocations", takenInAllUnits(x), needed);
        for (int job = 0; job < 24; job += 3) {
            x.cancel(job);
            needed -= (1 + job * 7 % 11) << (job * 5 % 6);
        }
        check.same("26: replanned by cancel", takenInAllUnits(x), needed);
        x.cancelReservation(4);
        check.same("26: replanned by cancelReservation", takenInAllUnits(x), needed - (5 << 4));
    }

    private static int takenInAllUnits(BuddyBlockScheduler x) {
        int end = Math.max(x.makespan(), 40);
        int taken = 0;
        for (int unit = 0; unit <= end; unit++) {
            taken += 32 - x.freeProcessors(unit);
        }
        return taken;
    }

    /** 24 jobs that each need all processors for the longest time. */
    private static void largestPlan(Check check) {
        BuddyBlockScheduler x = new BuddyBlockScheduler();
        for (int job = 0; job < 24; job++) {
            check.same("2: job " + job, x.submit(0, 5, 40, 40), 40 * job);
        }
        for (int i = 0; i < 20; i++) {
            x.advance(48);
        }
        check.same("11: clock 960", x.clock(), 960);
        check.same("13: the last one", x.state(23), 2);
        check.same("17: the last one", x.finishTime(23), 960);
        check.same("19: the last one", x.waitTime(23), 920);
        check.same("21: the last one", x.slowdown(23), 24.0f);
        check.same("20: all of them", x.averageWait(), 460.0);
        check.same("23: all processors at all times", x.utilization(), 1.0);
    }

    /** "planned times can be later than unit 1000": a waiting job far behind, that comes back. */
    private static void lastsOfManyPreemptions(Check check) {
        BuddyBlockScheduler x = new BuddyBlockScheduler();
        x.submit(0, 5, 40, 40);
        for (int i = 0; i < 200; i++) {
            x.preempt(0, 9);
        }
        check.same("2: far behind", x.submit(1, 5, 1, 1), 1840);
        check.same("16: the promise", x.promise(1), 1840);
        x.cancel(0);
        check.same("14: at once", x.startTime(1), 0);
        check.same("3: it finishes", x.advance(1), 1);
        check.same("24: nothing is left", x.makespan(), 1);
    }

    /** All questions together, asked twice, change no answer. */
    private static void changesOnlyByCallsThatChange(Check check) {
        Calls calls = x -> {
            x.submit(0, 4, 9, 4);
            x.submit(1, 5, 7, 7);
            x.reserve(3, 40, 5);
            x.advance(2);
        };
        Calls questions = x -> {
            x.clock();
            x.jobCount();
            x.state(0);
            x.startTime(1);
            x.firstProcessor(1);
            x.promise(1);
            x.preemptions(0);
            x.waitTime(0);
            x.averageWait();
            x.usage(0);
            x.utilization();
            x.makespan();
            x.ownerAt(0, 0);
            x.freeProcessors(0);
            x.freeBlocks(0);
            x.largestFree();
            x.fragmentation();
            x.earliestStart(5, 40);
            x.lowestBlock(0, 0, 9);
            x.blockStarts(4, 0);
            x.busiestBlock();
            x.eventCount();
            x.event(0, 0);
            x.refusal();
            x.reservedProcessor(0);
            x.save();
        };
        check.sameLines("all questions", Answers.after(calls.then(questions).then(questions)), Answers.after(calls));
    }
}
