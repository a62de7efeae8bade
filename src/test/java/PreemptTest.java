/** Promises 5 (preempt) and 18 (preemptions). */
final class PreemptTest {
    static void run(Check check) {
        wrongInputs(check);
        reducesByTheUnitsSinceTheLastStart(check);
        inTheUnitOfTheStart(check);
        othersAreReplannedFirst(check);
        eventsInOrder(check);
        keepsPromiseAndFirstWait(check);
        estimateBeyondForty(check);
    }

    private static void wrongInputs(Check check) {
        BuddyBlockScheduler x = new BuddyBlockScheduler();
        x.submit(0, 5, 4, 4);
        x.submit(0, 5, 4, 4);
        check.outside("5: no such job", () -> x.preempt(2, 0));
        check.outside("5: the job is looked at before the cost", () -> x.preempt(-1, 10));
        check.bad("5: cost 10", () -> x.preempt(0, 10));
        check.bad("5: cost -1", () -> x.preempt(0, -1));
        check.bad("5: the cost is looked at before the state", () -> x.preempt(1, Integer.MAX_VALUE));
        check.refused("5: a waiting job", () -> x.preempt(1, 0));
        check.same("18: not preempted", x.preemptions(0), 0);
        x.advance(4);
        check.refused("5: a finished job", () -> x.preempt(0, 9));
        x.cancel(1);
        check.refused("5: a cancelled job", () -> x.preempt(1, 9));
        check.outside("18: preemptions(2)", () -> x.preemptions(2));
        check.outside("18: preemptions(-1)", () -> x.preemptions(-1));
    }

    private static void reducesByTheUnitsSinceTheLastStart(Check check) {
        BuddyBlockScheduler x = new BuddyBlockScheduler();
        x.submit(0, 1, 8, 6);
        x.advance(3);
        check.same("5: runs again at once", x.preempt(0, 2), 3);
        check.same("5: estimate 7", x.makespan(), 10);
        x.advance(1);
        check.same("5: once more", x.preempt(0, 0), 4);
        check.same("5: estimate 6", x.makespan(), 10);
        check.same("18: two preemptions", x.preemptions(0), 2);
        check.same("5: running time 4", x.advance(3), 0);
        check.same("5: finishes", x.advance(1), 1);
        check.same("5: at 8", x.finishTime(0), 8);
        check.same("22: all units count", x.usage(0), 16);
        check.same("21: by the first running time", x.slowdown(0), (float) 8 / (float) 6);
        check.same("32: three starts", x.blockStarts(1, 0), 3);
        check.same("18: stays", x.preemptions(0), 2);
    }

    private static void inTheUnitOfTheStart(Check check) {
        BuddyBlockScheduler x = new BuddyBlockScheduler();
        x.submit(0, 0, 5, 5);
        check.same("5: reduced by 0", x.preempt(0, 9), 0);
        check.same("5: estimate 14", x.makespan(), 14);
        check.same("5: running", x.state(0), 1);
        check.same("5: running time 14", x.advance(13), 0);
        check.same("5: finishes", x.advance(1), 1);
    }

    private static void othersAreReplannedFirst(Check check) {
        BuddyBlockScheduler x = new BuddyBlockScheduler();
        x.submit(0, 5, 20, 10);
        x.submit(1, 5, 20, 10);
        x.advance(3);
        check.same("5: behind the waiting one", x.preempt(0, 2), 23);
        check.same("5: it waits", x.state(0), 0);
        check.same("5: the other one runs", x.state(1), 1);
        check.same("5: planned start", x.startTime(0), 23);
        check.same("24: makespan", x.makespan(), 42);
        check.same("22: usage", x.usage(0), 96);
        x.advance(10);
        check.same("5: starts again", x.startTime(0), 13);
        check.same("5: runs for 9 units", x.advance(8), 0);
        check.same("5: finishes", x.advance(1), 1);
        check.same("22: usage in the end", x.usage(0), 96 + 9 * 32);
    }

    private static void eventsInOrder(Check check) {
        BuddyBlockScheduler x = new BuddyBlockScheduler();
        x.submit(0, 5, 20, 10);
        x.submit(1, 5, 20, 10);
        x.submit(2, 4, 5, 5);
        x.advance(3);
        x.preempt(0, 0);
        int[][] due = {{0, 0, 0}, {0, 1, 0}, {0, 0, 1}, {0, 0, 2}, {3, 4, 0}, {3, 5, 1}, {3, 5, 2}, {3, 1, 1}};
        check.same("5: number of events", x.eventCount(), due.length);
        for (int i = 0; i < due.length; i++) {
            for (int column = 0; column < 3; column++) {
                check.same("5: event(" + i + ", " + column + ")", x.event(i, column), due[i][column]);
            }
        }
    }

    private static void keepsPromiseAndFirstWait(Check check) {
        BuddyBlockScheduler x = new BuddyBlockScheduler();
        x.submit(0, 5, 4, 4);
        x.submit(0, 5, 9, 9);
        x.submit(0, 5, 3, 3);
        x.advance(6);
        check.same("5: waits for the third", x.preempt(1, 1), 9);
        check.same("16: promise stays", x.promise(1), 4);
        check.same("19: the first start counts", x.waitTime(1), 4);
        x.advance(4);
        check.same("5: runs again", x.startTime(1), 9);
        check.same("19: the first start counts still", x.waitTime(1), 4);
        check.same("16: promise stays still", x.promise(1), 4);
    }

    private static void estimateBeyondForty(Check check) {
        BuddyBlockScheduler x = new BuddyBlockScheduler();
        x.submit(0, 5, 40, 40);
        for (int i = 0; i < 300; i++) {
            x.preempt(0, 9);
        }
        check.same("5: estimate 2740", x.makespan(), 2740);
        check.same("18: three hundred", x.preemptions(0), 300);
        check.same("2: planned behind unit 1000", x.submit(0, 0, 1, 1), 2740);
        check.same("25: owner behind unit 1000", x.ownerAt(0, 2740), 1);
        check.same("25: owner before", x.ownerAt(31, 2739), 0);
    }
}
