/** Promises 20, 22 to 24, 32 and 33: ordinary figures; the edges stand in StatisticsEdges and BlockEdges. */
final class StatisticsTest {
    static void run(Check check) {
        averageOfWaits(check);
        usages(check);
        utilizations(check);
        makespans(check);
        startsOfBlocks(check);
        busiest(check);
    }

    private static void averageOfWaits(Check check) {
        BuddyBlockScheduler x = new BuddyBlockScheduler();
        check.undefined("20: no job", x::averageWait);
        x.reserve(5, 0, 1);
        x.submit(0, 5, 1, 1);
        check.undefined("20: no job was started", x::averageWait);
        x.cancel(0);
        check.undefined("20: a job that never started", x::averageWait);
        x.submit(0, 5, 3, 3);
        x.submit(0, 5, 3, 3);
        x.submit(0, 5, 3, 3);
        x.submit(0, 5, 3, 3);
        x.advance(1);
        check.same("20: one job", x.averageWait(), 1.0);
        x.advance(3);
        check.same("20: two jobs", x.averageWait(), 2.5);
        x.advance(3);
        check.same("20: three jobs", x.averageWait(), 12.0 / 3.0);
        x.cancel(3);
        check.same("20: four jobs, one cancelled", x.averageWait(), 19.0 / 4.0);
        BuddyBlockScheduler y = new BuddyBlockScheduler();
        y.submit(0, 5, 3, 3);
        check.same("20: no wait", y.averageWait(), 0.0);
        y.submit(0, 5, 3, 3);
        y.advance(3);
        check.same("20: with the first job", y.averageWait(), 1.5);
    }

    private static void usages(Check check) {
        BuddyBlockScheduler x = new BuddyBlockScheduler();
        x.submit(2, 3, 9, 5);
        x.submit(2, 0, 9, 9);
        x.submit(3, 1, 9, 9);
        x.submit(1, 5, 9, 9);
        check.same("22: the current unit does not count", x.usage(2), 0);
        x.advance(4);
        check.same("22: two jobs", x.usage(2), 4 * 8 + 4);
        check.same("22: one job", x.usage(3), 8);
        check.same("22: a waiting job", x.usage(1), 0);
        check.same("22: no job", x.usage(0), 0);
        x.advance(4);
        check.same("22: a finished job", x.usage(2), 5 * 8 + 8);
        BuddyBlockScheduler y = new BuddyBlockScheduler();
        for (int job = 0; job < 24; job++) {
            y.submit(job % 4, 0, 2, 2);
        }
        y.advance(1);
        for (int user = 0; user < 4; user++) {
            check.same("22: six of 24 jobs", y.usage(user), 6);
        }
    }

    private static void utilizations(Check check) {
        BuddyBlockScheduler x = new BuddyBlockScheduler();
        check.undefined("23: at 0", x::utilization);
        x.submit(0, 4, 3, 3);
        x.submit(1, 2, 9, 9);
        x.submit(3, 0, 1, 1);
        check.undefined("23: at 0 with jobs", x::utilization);
        x.advance(3);
        check.same("23: at 3", x.utilization(), 61.0 / 96.0);
        x.advance(4);
        check.same("23: at 7", x.utilization(), 77.0 / 224.0);
        BuddyBlockScheduler y = new BuddyBlockScheduler();
        y.advance(1);
        check.same("23: without jobs", y.utilization(), 0.0);
        BuddyBlockScheduler z = new BuddyBlockScheduler();
        z.submit(0, 5, 9, 9);
        z.advance(9);
        check.same("23: full", z.utilization(), 1.0);
    }

    private static void makespans(Check check) {
        BuddyBlockScheduler x = new BuddyBlockScheduler();
        x.reserve(5, 20, 9);
        check.same("24: reservations do not count", x.makespan(), 0);
        x.submit(0, 5, 7, 3);
        check.same("24: the whole estimate", x.makespan(), 7);
        x.submit(0, 5, 20, 20);
        check.same("24: a waiting job", x.makespan(), 49);
        x.advance(3);
        check.same("24: replanned", x.makespan(), 49);
        x.cancel(1);
        check.same("24: at least the clock", x.makespan(), 3);
    }

    private static void startsOfBlocks(Check check) {
        BuddyBlockScheduler x = new BuddyBlockScheduler();
        x.submit(0, 2, 2, 2);
        x.submit(0, 2, 5, 5);
        x.submit(0, 0, 5, 5);
        x.submit(0, 5, 1, 1);
        check.same("32: first block", x.blockStarts(2, 0), 1);
        check.same("32: second block", x.blockStarts(2, 4), 1);
        check.same("32: the order counts", x.blockStarts(3, 0), 0);
        check.same("32: order 0", x.blockStarts(0, 8), 1);
        check.same("32: a planned start is no start", x.blockStarts(5, 0), 0);
        x.preempt(1, 0);
        check.same("32: each start counts", x.blockStarts(2, 4), 2);
        x.cancel(1);
        check.same("32: cancelled jobs count", x.blockStarts(2, 4), 2);
        x.advance(6);
        check.same("32: order 5", x.blockStarts(5, 0), 1);
        check.same("32: finished jobs count", x.blockStarts(2, 0), 1);
    }

    private static void busiest(Check check) {
        BuddyBlockScheduler x = new BuddyBlockScheduler();
        check.missing("33: no job", x::busiestBlock);
        x.reserve(5, 0, 1);
        x.submit(0, 4, 9, 9);
        check.missing("33: no start", x::busiestBlock);
        x.advance(1);
        check.same("33: one start", x.busiestBlock(), 400);
        x.submit(0, 3, 9, 9);
        check.same("33: the lowest order", x.busiestBlock(), 316);
        x.submit(0, 3, 9, 9);
        check.same("33: the lowest processor", x.busiestBlock(), 316);
        x.preempt(2, 0);
        check.same("33: most starts", x.busiestBlock(), 324);
        x.preempt(0, 0);
        check.same("33: the lowest order of two", x.busiestBlock(), 324);
        x.preempt(0, 0);
        check.same("33: most starts again", x.busiestBlock(), 400);
        BuddyBlockScheduler y = new BuddyBlockScheduler();
        y.submit(0, 0, 9, 9);
        check.same("33: block 0 of order 0", y.busiestBlock(), 0);
        BuddyBlockScheduler z = new BuddyBlockScheduler();
        z.submit(0, 5, 9, 9);
        check.same("33: order 5", z.busiestBlock(), 500);
        z.cancel(0);
        z.submit(0, 4, 9, 9);
        z.submit(0, 4, 9, 9);
        z.preempt(2, 0);
        check.same("33: the last block of order 4", z.busiestBlock(), 416);
    }
}
