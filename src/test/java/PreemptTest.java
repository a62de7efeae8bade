/** Promises 5 (preempt) and 18 (preemptions): ordinary calls; the edges stand in PreemptEdges. */
final class PreemptTest {
    static void run(Check check) {
        reducesByTheUnitsSinceTheLastStart(check);
        othersAreReplannedFirst(check);
        eventsInOrder(check);
    }

    private static void reducesByTheUnitsSinceTheLastStart(Check check) {
        BuddyBlockScheduler x = new BuddyBlockScheduler();
        x.submit(0, 1, 8, 6);
        x.advance(3);
        check.same("5: runs again at once", x.preempt(0, 2), 3);
        check.same("5: estimate 7", x.makespan(), 10);
        x.advance(1);
        check.same("5: once more", x.preempt(0, 0), 4);
        check.same("5: estimate 6", x.makespan(), 10);
        check.same("18: two preemptions", x.preemptions(0), 2);
        check.same("5: running time 4", x.advance(3), 0);
        check.same("5: finishes", x.advance(1), 1);
        check.same("5: at 8", x.finishTime(0), 8);
        check.same("22: all units count", x.usage(0), 16);
        check.same("21: by the first running time", x.slowdown(0), (float) 8 / (float) 6);
        check.same("32: three starts", x.blockStarts(1, 0), 3);
        check.same("18: stays", x.preemptions(0), 2);
    }

    private static void othersAreReplannedFirst(Check check) {
        BuddyBlockScheduler x = new BuddyBlockScheduler();
        x.submit(0, 5, 20, 10);
        x.submit(1, 5, 20, 10);
        x.advance(3);
        check.same("5: behind the waiting one", x.preempt(0, 2), 23);
        check.same("5: it waits", x.state(0), 0);
        check.same("5: the other one runs", x.state(1), 1);
        check.same("5: planned start", x.startTime(0), 23);
        check.same("24: makespan", x.makespan(), 42);
        check.same("22: usage", x.usage(0), 96);
        x.advance(10);
        check.same("5: starts again", x.startTime(0), 13);
        check.same("5: runs for 9 units", x.advance(8), 0);
        check.same("5: finishes", x.advance(1), 1);
        check.same("22: usage in the end", x.usage(0), 96 + 9 * 32);
    }

    private static void eventsInOrder(Check check) {
        BuddyBlockScheduler x = new BuddyBlockScheduler();
        x.submit(0, 5, 20, 10);
        x.submit(1, 5, 20, 10);
        x.submit(2, 4, 5, 5);
        x.advance(3);
        x.preempt(0, 0);
        int[][] due = {{0, 0, 0}, {0, 1, 0}, {0, 0, 1}, {0, 0, 2}, {3, 4, 0}, {3, 5, 1}, {3, 5, 2}, {3, 1, 1}};
        check.same("5: number of events", x.eventCount(), due.length);
        for (int i = 0; i < due.length; i++) {
            for (int column = 0; column < 3; column++) {
                check.same("5: event(" + i + ", " + column + ")", x.event(i, column), due[i][column]);
            }
        }
    }
}
