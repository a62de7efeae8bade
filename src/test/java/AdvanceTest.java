/** Promises 3 (advance) and 11 (clock). */
final class AdvanceTest {
    static void run(Check check) {
        ranges(check);
        clockStopsAtThousand(check);
        countsFinishedJobs(check);
        replansOnlyWhenAJobFinishes(check);
        startsInTheTickOfThePlannedStart(check);
        replansByPlannedStart(check);
        movesToALowerBlockWithTheSameStart(check);
        noReplanningInAQuietTick(check);
    }

    private static void ranges(Check check) {
        BuddyBlockScheduler x = new BuddyBlockScheduler();
        for (int ticks : new int[] {0, -1, 51, Integer.MAX_VALUE, Integer.MIN_VALUE}) {
            check.bad("3: advance(" + ticks + ")", () -> x.advance(ticks));
        }
        check.same("11: clock", x.clock(), 0);
        check.same("3: advance(1)", x.advance(1), 0);
        check.same("3: advance(50)", x.advance(50), 0);
        check.same("11: clock later", x.clock(), 51);
    }

    private static void clockStopsAtThousand(Check check) {
        BuddyBlockScheduler x = new BuddyBlockScheduler();
        for (int i = 0; i < 19; i++) {
            x.advance(50);
        }
        x.advance(49);
        x.submit(0, 5, 1, 1);
        check.refused("3: two ticks at 999", () -> x.advance(2));
        check.same("3: no tick was made", x.clock(), 999);
        check.same("3: no job finished", x.state(0), 1);
        check.same("3: one tick at 999", x.advance(1), 1);
        check.same("11: the greatest clock", x.clock(), 1000);
        check.refused("3: a tick at 1000", () -> x.advance(1));
        check.bad("3: the range is looked at first", () -> x.advance(51));
        check.same("2: a job at 1000", x.submit(0, 5, 40, 40), 1000);
        check.same("2: a job that is planned behind 1000", x.submit(0, 5, 40, 40), 1040);
        check.same("24: makespan behind 1000", x.makespan(), 1080);
    }

    private static void countsFinishedJobs(Check check) {
        BuddyBlockScheduler x = new BuddyBlockScheduler();
        x.submit(0, 0, 5, 2);
        x.submit(0, 0, 5, 3);
        x.submit(0, 0, 5, 5);
        x.submit(0, 0, 9, 3);
        check.same("3: none", x.advance(1), 0);
        check.same("3: two ticks with three jobs", x.advance(2), 3);
        check.same("3: the last one runs", x.state(2), 1);
        check.same("3: the last one", x.advance(50), 1);
        check.same("3: no more", x.advance(50), 0);
    }

    private static void replansOnlyWhenAJobFinishes(Check check) {
        BuddyBlockScheduler x = new BuddyBlockScheduler();
        x.submit(0, 5, 10, 6);
        x.submit(0, 5, 10, 10);
        x.advance(5);
        check.same("3: planned behind the estimate", x.startTime(1), 10);
        x.advance(1);
        check.same("3: starts when the other one finishes", x.startTime(1), 6);
        check.same("3: and is running", x.state(1), 1);
    }

    private static void startsInTheTickOfThePlannedStart(Check check) {
        BuddyBlockScheduler x = new BuddyBlockScheduler();
        x.reserve(5, 0, 3);
        check.same("3: planned behind the reservation", x.submit(0, 2, 4, 4), 3);
        x.advance(2);
        check.same("3: waiting", x.state(0), 0);
        x.advance(1);
        check.same("3: running", x.state(0), 1);
        x.advance(3);
        check.same("3: still running", x.state(0), 1);
        x.advance(1);
        check.same("3: finished", x.state(0), 2);
        check.same("3: finished at 7", x.finishTime(0), 7);
    }

    /** The later number has the earlier planned start, so it is taken first and gets the gap. */
    private static void replansByPlannedStart(Check check) {
        BuddyBlockScheduler x = new BuddyBlockScheduler();
        x.submit(0, 5, 10, 2);
        x.reserve(5, 12, 3);
        check.same("3: long one", x.submit(0, 5, 5, 5), 15);
        check.same("3: short one", x.submit(0, 5, 2, 2), 10);
        check.same("3: one finishes", x.advance(2), 1);
        check.same("3: the short one is taken first", x.startTime(2), 2);
        check.same("3: the long one follows", x.startTime(1), 4);
    }

    private static void movesToALowerBlockWithTheSameStart(Check check) {
        BuddyBlockScheduler x = new BuddyBlockScheduler();
        x.reserve(5, 3, 2);
        x.submit(0, 0, 9, 9);
        x.submit(0, 0, 9, 9);
        check.same("3: processor before", x.firstProcessor(1), 1);
        x.cancel(0);
        check.same("3: same start", x.startTime(1), 5);
        check.same("3: lower processor", x.firstProcessor(1), 0);
        check.same("35: no event of moving", x.eventCount(), 3);
    }

    /** After the replanning of the cancelling there is a better start for job 2, but nothing finishes at 5. */
    private static void noReplanningInAQuietTick(Check check) {
        BuddyBlockScheduler x = new BuddyBlockScheduler();
        x.submit(0, 4, 12, 12);
        x.submit(0, 4, 7, 7);
        x.submit(0, 4, 10, 10);
        x.submit(0, 4, 2, 2);
        x.advance(4);
        x.cancel(0);
        check.same("3: the long one does not fit yet", x.startTime(2), 7);
        check.same("3: the short one starts", x.startTime(3), 4);
        check.same("3: a tick in which nothing finishes", x.advance(1), 0);
        check.same("3: nothing was replanned", x.startTime(2), 7);
        check.same("3: the short one finishes", x.advance(1), 1);
        check.same("3: now it is replanned", x.startTime(2), 6);
    }
}
