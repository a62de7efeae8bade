/** Promise 3 (advance): ordinary ticks; the edges stand in AdvanceEdges. */
final class AdvanceTest {
    static void run(Check check) {
        countsFinishedJobs(check);
        replansOnlyWhenAJobFinishes(check);
        startsInTheTickOfThePlannedStart(check);
        replansByPlannedStart(check);
    }

    private static void countsFinishedJobs(Check check) {
        BuddyBlockScheduler x = new BuddyBlockScheduler();
        x.submit(0, 0, 5, 2);
        x.submit(0, 0, 5, 3);
        x.submit(0, 0, 5, 5);
        x.submit(0, 0, 9, 3);
        check.same("3: none", x.advance(1), 0);
        check.same("3: two ticks with three jobs", x.advance(2), 3);
        check.same("3: the last one runs", x.state(2), 1);
        check.same("3: the last one", x.advance(50), 1);
        check.same("3: no more", x.advance(50), 0);
    }

    private static void replansOnlyWhenAJobFinishes(Check check) {
        BuddyBlockScheduler x = new BuddyBlockScheduler();
        x.submit(0, 5, 10, 6);
        x.submit(0, 5, 10, 10);
        x.advance(5);
        check.same("3: planned behind the estimate", x.startTime(1), 10);
        x.advance(1);
        check.same("3: starts when the other one finishes", x.startTime(1), 6);
        check.same("3: and is running", x.state(1), 1);
    }

    private static void startsInTheTickOfThePlannedStart(Check check) {
        BuddyBlockScheduler x = new BuddyBlockScheduler();
        x.reserve(5, 0, 3);
        check.same("3: planned behind the reservation", x.submit(0, 2, 4, 4), 3);
        x.advance(2);
        check.same("3: waiting", x.state(0), 0);
        x.advance(1);
        check.same("3: running", x.state(0), 1);
        x.advance(3);
        check.same("3: still running", x.state(0), 1);
        x.advance(1);
        check.same("3: finished", x.state(0), 2);
        check.same("3: finished at 7", x.finishTime(0), 7);
    }

    /** The later number has the earlier planned start, so it is taken first and gets the gap. */
    private static void replansByPlannedStart(Check check) {
        BuddyBlockScheduler x = new BuddyBlockScheduler();
        x.submit(0, 5, 10, 2);
        x.reserve(5, 12, 3);
        check.same("3: long one", x.submit(0, 5, 5, 5), 15);
        check.same("3: short one", x.submit(0, 5, 2, 2), 10);
        check.same("3: one finishes", x.advance(2), 1);
        check.same("3: the short one is taken first", x.startTime(2), 2);
        check.same("3: the long one follows", x.startTime(1), 4);
    }
}
