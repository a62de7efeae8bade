/** The edges that promise 4 (cancel) names, a test for each. */
final class CancelEdges {
    static void run(Check check) {
        noJobYet(check);
        firstAndLastJob(check);
        allTwentyFour(check);
        returnsWaiting(check);
        returnsRunning(check);
        finishedJob(check);
        cancelledJob(check);
        inTheUnitOfItsStart(check);
        inItsLastUnit(check);
        preemptedJobThatWaits(check);
        onlyJob(check);
        moveToTheClockStarts(check);
        moveToTheNextUnitWaits(check);
        nothingMovesBehindAShortJob(check);
        atThousand(check);
    }

    /** "IndexOutOfBoundsException if there is no such job" */
    private static void noJobYet(Check check) {
        BuddyBlockScheduler x = new BuddyBlockScheduler();
        check.outside("4: cancel(0) without jobs", () -> x.cancel(0));
        check.outside("4: cancel(-1) without jobs", () -> x.cancel(-1));
        check.same("34: no event", x.eventCount(), 0);
    }

    private static void firstAndLastJob(Check check) {
        BuddyBlockScheduler x = new BuddyBlockScheduler();
        x.submit(0, 0, 5, 5);
        x.submit(0, 0, 5, 5);
        x.submit(0, 0, 5, 5);
        for (int job : new int[] {-1, 3, 23, 24, 100, Integer.MIN_VALUE, Integer.MAX_VALUE}) {
            check.outside("4: cancel(" + job + ") of 3 jobs", () -> x.cancel(job));
        }
        check.same("4: cancel(0)", x.cancel(0), 1);
        check.same("4: cancel(2)", x.cancel(2), 1);
        check.same("13: the one between them runs", x.state(1), 1);
    }

    private static void allTwentyFour(Check check) {
        BuddyBlockScheduler x = new BuddyBlockScheduler();
        for (int job = 0; job < 24; job++) {
            x.submit(0, 0, 5, 5);
        }
        check.outside("4: cancel(24) of 24 jobs", () -> x.cancel(24));
        check.same("4: cancel(23) of 24 jobs", x.cancel(23), 1);
        check.same("13: its state", x.state(23), 3);
        check.same("26: its processor is free", x.freeProcessors(0), 9);
    }

    /** "the state that the job had" */
    private static void returnsWaiting(Check check) {
        BuddyBlockScheduler x = new BuddyBlockScheduler();
        x.submit(0, 5, 5, 5);
        x.submit(0, 5, 5, 5);
        check.same("4: a waiting job", x.cancel(1), 0);
        check.same("13: cancelled", x.state(1), 3);
        check.same("24: its allocation is gone", x.makespan(), 5);
        check.refused("19: it was never started", () -> x.waitTime(1));
    }

    private static void returnsRunning(Check check) {
        BuddyBlockScheduler x = new BuddyBlockScheduler();
        x.submit(0, 5, 5, 5);
        x.advance(2);
        check.same("4: a running job", x.cancel(0), 1);
        check.same("13: cancelled", x.state(0), 3);
        check.same("25: its allocation is gone", x.ownerAt(0, 2), -1);
        check.same("25: that of the past, too", x.ownerAt(0, 1), -1);
        check.same("19: it was started", x.waitTime(0), 0);
    }

    /** "IllegalStateException if the job is neither waiting nor running" */
    private static void finishedJob(Check check) {
        BuddyBlockScheduler x = new BuddyBlockScheduler();
        x.submit(0, 5, 5, 2);
        x.advance(2);
        check.refused("4: a finished job", () -> x.cancel(0));
        check.same("13: still finished", x.state(0), 2);
        check.same("17: at 2", x.finishTime(0), 2);
    }

    private static void cancelledJob(Check check) {
        BuddyBlockScheduler x = new BuddyBlockScheduler();
        x.submit(0, 5, 5, 5);
        x.cancel(0);
        int events = x.eventCount();
        check.refused("4: a cancelled job", () -> x.cancel(0));
        check.same("13: still cancelled", x.state(0), 3);
        check.same("34: no event", x.eventCount(), events);
    }

    private static void inTheUnitOfItsStart(Check check) {
        BuddyBlockScheduler x = new BuddyBlockScheduler();
        x.submit(2, 5, 5, 5);
        check.same("4: at once", x.cancel(0), 1);
        check.same("22: no usage", x.usage(2), 0);
        check.same("32: its start counts", x.blockStarts(5, 0), 1);
        check.same("20: its wait time, too", x.averageWait(), 0.0);
        x.advance(3);
        check.same("22: no usage later", x.usage(2), 0);
    }

    private static void inItsLastUnit(Check check) {
        BuddyBlockScheduler x = new BuddyBlockScheduler();
        x.submit(2, 5, 5, 5);
        x.advance(4);
        check.same("4: before its last tick", x.cancel(0), 1);
        check.same("22: four units", x.usage(2), 128);
        check.same("3: it does not finish", x.advance(1), 0);
        check.same("13: cancelled", x.state(0), 3);
        check.same("22: still four units", x.usage(2), 128);
    }

    private static void preemptedJobThatWaits(Check check) {
        BuddyBlockScheduler x = new BuddyBlockScheduler();
        x.submit(2, 5, 9, 9);
        x.submit(1, 5, 3, 3);
        x.advance(2);
        x.preempt(0, 1);
        check.same("13: it waits", x.state(0), 0);
        check.same("4: waiting", x.cancel(0), 0);
        check.same("22: the usage stays", x.usage(2), 64);
        check.same("19: the wait time stays", x.waitTime(0), 0);
        check.same("18: the preemption stays", x.preemptions(0), 1);
        check.same("32: the starts stay", x.blockStarts(5, 0), 2);
    }

    private static void onlyJob(Check check) {
        BuddyBlockScheduler x = new BuddyBlockScheduler();
        x.submit(0, 0, 40, 40);
        x.cancel(0);
        check.same("26: all is free", x.freeProcessors(0), 32);
        check.same("24: no allocation", x.makespan(), 0);
        EventEdges.sameTail(check, "4: its events", x, new int[][] {{0, 0, 0}, {0, 1, 0}, {0, 3, 0}});
    }

    /** "Then the waiting jobs are replanned and jobs are started." */
    private static void moveToTheClockStarts(Check check) {
        BuddyBlockScheduler x = new BuddyBlockScheduler();
        x.submit(0, 5, 9, 9);
        x.submit(1, 5, 9, 9);
        x.advance(4);
        x.cancel(0);
        check.same("13: it runs", x.state(1), 1);
        check.same("14: from the clock on", x.startTime(1), 4);
        EventEdges.sameTail(check, "4: moved and started", x, new int[][] {{4, 3, 0}, {4, 5, 1}, {4, 1, 1}});
    }

    private static void moveToTheNextUnitWaits(Check check) {
        BuddyBlockScheduler x = new BuddyBlockScheduler();
        x.reserve(5, 0, 1);
        x.submit(0, 5, 9, 9);
        x.submit(1, 5, 9, 9);
        x.cancel(0);
        check.same("14: behind the reservation", x.startTime(1), 1);
        check.same("13: it waits", x.state(1), 0);
        EventEdges.sameTail(check, "4: moved alone", x, new int[][] {{0, 3, 0}, {0, 5, 1}});
    }

    private static void nothingMovesBehindAShortJob(Check check) {
        BuddyBlockScheduler x = new BuddyBlockScheduler();
        x.submit(0, 4, 9, 9);
        x.submit(0, 4, 3, 3);
        x.submit(0, 5, 2, 2);
        x.cancel(1);
        check.same("14: the long one is in the way", x.startTime(2), 9);
        EventEdges.sameTail(check, "4: no event of moving", x, new int[][] {{0, 0, 2}, {0, 3, 1}});
    }

    private static void atThousand(Check check) {
        BuddyBlockScheduler x = AdvanceEdges.atThousand();
        x.submit(0, 5, 9, 9);
        x.submit(0, 5, 9, 9);
        x.submit(0, 5, 9, 9);
        check.same("4: a waiting one at 1000", x.cancel(1), 0);
        check.same("14: the third one is planned behind 1000", x.startTime(2), 1009);
        check.same("4: the running one at 1000", x.cancel(0), 1);
        check.same("14: the third one starts at 1000", x.startTime(2), 1000);
        check.same("13: and runs", x.state(2), 1);
    }
}
