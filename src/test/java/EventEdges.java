import java.util.Arrays;

/** The edges that promises 34 (eventCount) and 35 (event) name, a test for each. */
final class EventEdges {
    private static final int SUBMITTED = 0;
    private static final int STARTED = 1;
    private static final int PREEMPTED = 4;

    static void run(Check check) {
        noEventYet(check);
        indexRange(check);
        columnRange(check);
        indexAndColumnFarOutside(check);
        upToSixty(check);
        sixtyFirst(check);
        eachOneBehindTheSixtyFirst(check);
        twoRoundsOfTheRing(check);
        eachKindAsTheSixtyFirst(check);
        manyInOneCall(check);
        timesOfTheClock(check);
        lastJob(check);
        refusedCallsRecordNothing(check);
        callsWithoutEvents(check);
    }

    static int[] at(BuddyBlockScheduler x, int index) {
        return new int[] {x.event(index, 0), x.event(index, 1), x.event(index, 2)};
    }

    /** The latest events, each with its time, kind and job. */
    static void sameTail(Check check, String what, BuddyBlockScheduler x, int[][] due) {
        int from = x.eventCount() - due.length;
        for (int i = 0; i < due.length; i++) {
            int index = from + i;
            Object got = Check.outcome(() -> Arrays.toString(at(x, index)));
            check.same("35: " + what + ", event " + i + " of " + due.length, got, Arrays.toString(due[i]));
        }
    }

    private static void sameEvent(Check check, String what, BuddyBlockScheduler x, int index, int... due) {
        check.same("35: " + what, Arrays.toString(at(x, index)), Arrays.toString(due));
    }

    /** Two events for the job, then two more with each preemption: the one of preempting and the start. */
    private static void record(BuddyBlockScheduler x, int pairs) {
        x.submit(0, 0, 40, 40);
        for (int i = 1; i < pairs; i++) {
            x.advance(1);
            x.preempt(0, 1);
        }
    }

    /** "0 to 60" */
    private static void noEventYet(Check check) {
        BuddyBlockScheduler x = new BuddyBlockScheduler();
        check.same("34: none", x.eventCount(), 0);
        for (int column = 0; column < 3; column++) {
            int k = column;
            check.outside("35: event(0, " + column + ")", () -> x.event(0, k));
            check.outside("35: event(-1, " + column + ")", () -> x.event(-1, k));
        }
    }

    /** "from 0 for the oldest recorded event" */
    private static void indexRange(Check check) {
        BuddyBlockScheduler x = new BuddyBlockScheduler();
        record(x, 2);
        check.same("34: four", x.eventCount(), 4);
        check.outside("35: event(-1, 0) of 4", () -> x.event(-1, 0));
        sameEvent(check, "the oldest", x, 0, 0, SUBMITTED, 0);
        sameEvent(check, "the latest", x, 3, 1, STARTED, 0);
        check.outside("35: event(4, 0) of 4", () -> x.event(4, 0));
        check.outside("35: event(59, 0) of 4", () -> x.event(59, 0));
        record(x, 28);
        check.same("34: sixty", x.eventCount(), 60);
        check.outside("35: event(-1, 0) of 60", () -> x.event(-1, 0));
        check.outside("35: event(60, 0) of 60", () -> x.event(60, 0));
        check.outside("35: event(61, 0) of 60", () -> x.event(61, 0));
        sameEvent(check, "the oldest of 60", x, 0, 0, SUBMITTED, 0);
    }

    /** "0 for the time, 1 for the kind, 2 for the job" */
    private static void columnRange(Check check) {
        BuddyBlockScheduler x = AdvanceEdges.at(7);
        x.submit(0, 0, 9, 9);
        x.submit(0, 0, 9, 9);
        check.outside("35: column -1", () -> x.event(3, -1));
        check.same("35: the time", x.event(3, 0), 7);
        check.same("35: the kind", x.event(3, 1), STARTED);
        check.same("35: the job", x.event(3, 2), 1);
        check.outside("35: column 3", () -> x.event(3, 3));
        check.outside("35: no such event and no such column", () -> x.event(4, 3));
    }

    private static void indexAndColumnFarOutside(Check check) {
        BuddyBlockScheduler x = new BuddyBlockScheduler();
        record(x, 40);
        for (int far : new int[] {Integer.MIN_VALUE, Integer.MAX_VALUE, -60, -61, 120, 1 << 16}) {
            check.outside("35: index " + far, () -> x.event(far, 0));
            check.outside("35: column " + far, () -> x.event(0, far));
        }
    }

    /** "The latest 60 events are recorded." */
    private static void upToSixty(Check check) {
        BuddyBlockScheduler x = new BuddyBlockScheduler();
        record(x, 29);
        check.same("34: 58", x.eventCount(), 58);
        x.reserve(5, 100, 1);
        x.submit(1, 5, 40, 40);
        check.same("34: 59", x.eventCount(), 59);
        check.outside("35: event(59, 0) of 59", () -> x.event(59, 0));
        x.cancel(1);
        check.same("34: 60", x.eventCount(), 60);
        sameEvent(check, "the oldest of 60", x, 0, 0, SUBMITTED, 0);
        sameEvent(check, "the latest of 60", x, 59, 28, 3, 1);
    }

    private static void sixtyFirst(Check check) {
        BuddyBlockScheduler x = new BuddyBlockScheduler();
        record(x, 30);
        sameEvent(check, "the oldest of 60", x, 0, 0, SUBMITTED, 0);
        sameEvent(check, "the latest of 60", x, 59, 29, STARTED, 0);
        x.submit(1, 5, 40, 40);
        check.same("34: 60 of 61", x.eventCount(), 60);
        sameEvent(check, "the oldest is gone", x, 0, 0, STARTED, 0);
        sameEvent(check, "the one before the latest", x, 58, 29, STARTED, 0);
        sameEvent(check, "the 61st is the latest", x, 59, 29, SUBMITTED, 1);
        check.outside("35: event(60, 0) of 61", () -> x.event(60, 0));
    }

    /** With each event behind the 61st the window moves by one. */
    private static void eachOneBehindTheSixtyFirst(Check check) {
        BuddyBlockScheduler x = new BuddyBlockScheduler();
        record(x, 30);
        for (int more = 1; more <= 20; more++) {
            x.submit(1, 5, 40, 40);
            check.same("34: 60 of " + (60 + more), x.eventCount(), 60);
            sameEvent(check, "the latest of " + (60 + more), x, 59, 29, SUBMITTED, more);
            int pair = more / 2;
            int kind = more % 2 == 1 ? STARTED : PREEMPTED;
            sameEvent(check, "the oldest of " + (60 + more), x, 0, pair, kind, 0);
        }
    }

    private static void twoRoundsOfTheRing(Check check) {
        BuddyBlockScheduler x = new BuddyBlockScheduler();
        record(x, 65);
        check.same("34: 60 of 130", x.eventCount(), 60);
        for (int index = 0; index < 60; index++) {
            int kind = index % 2 == 0 ? PREEMPTED : STARTED;
            sameEvent(check, "event " + index + " of 130", x, index, 35 + index / 2, kind, 0);
        }
    }

    /** Each kind comes when 60 events are there already. */
    private static void eachKindAsTheSixtyFirst(Check check) {
        Calls full = x -> {
            x.submit(0, 5, 40, 20);
            for (int i = 0; i < 27; i++) {
                x.preempt(0, 0);
            }
            x.submit(1, 4, 9, 9);
            x.submit(1, 5, 9, 9);
            x.submit(2, 0, 9, 9);
            x.submit(3, 0, 9, 9);
        };
        BuddyBlockScheduler x = full.played();
        check.same("34: 60", x.eventCount(), 60);
        x.cancel(4);
        check.same("34: 60 with one cancelled", x.eventCount(), 60);
        sameTail(check, "cancelled as the 61st", x, new int[][] {{0, 0, 4}, {0, 3, 4}});
        x.submit(1, 0, 9, 9);
        sameTail(check, "submitted", x, new int[][] {{0, 3, 4}, {0, 0, 5}});
        x.preempt(0, 0);
        check.same("34: 60 with one preempted", x.eventCount(), 60);
        sameTail(check, "preempted, moved and started", x, new int[][] {
            {0, 4, 0}, {0, 5, 1}, {0, 5, 3}, {0, 5, 5}, {0, 5, 2}, {0, 1, 1}, {0, 1, 3}, {0, 1, 5}});
        check.same("3: three finish at 9", x.advance(9), 3);
        check.same("34: 60 with some finished", x.eventCount(), 60);
        sameTail(check, "finished and started", x, new int[][] {{9, 2, 1}, {9, 2, 3}, {9, 2, 5}, {9, 1, 2}});
    }

    /** 24 jobs are submitted and started, then all of them finish in one tick. */
    private static void manyInOneCall(Check check) {
        BuddyBlockScheduler x = new BuddyBlockScheduler();
        for (int job = 0; job < 24; job++) {
            x.submit(0, 0, 9, 9);
        }
        check.same("34: 48", x.eventCount(), 48);
        x.advance(9);
        check.same("34: 60 of 72", x.eventCount(), 60);
        sameEvent(check, "the oldest of 72", x, 0, 0, SUBMITTED, 6);
        sameEvent(check, "the last start", x, 35, 0, STARTED, 23);
        for (int job = 0; job < 24; job++) {
            sameEvent(check, "the end of job " + job, x, 36 + job, 9, 2, job);
        }
    }

    private static void timesOfTheClock(Check check) {
        BuddyBlockScheduler x = new BuddyBlockScheduler();
        x.submit(0, 0, 1, 1);
        AdvanceEdges.toClock(x, 1000);
        x.submit(0, 0, 1, 1);
        check.same("35: the time at first", x.event(0, 0), 0);
        check.same("35: the time of the end", x.event(2, 0), 1);
        check.same("35: the last time", x.event(4, 0), 1000);
    }

    private static void lastJob(Check check) {
        BuddyBlockScheduler x = new BuddyBlockScheduler();
        for (int job = 0; job < 24; job++) {
            x.submit(0, 5, 1, 1);
        }
        sameEvent(check, "the last job", x, 24, 0, SUBMITTED, 23);
        check.refused("2: one more", () -> x.submit(0, 5, 1, 1));
        check.same("34: no event of it", x.eventCount(), 25);
    }

    private static void refusedCallsRecordNothing(Check check) {
        BuddyBlockScheduler x = new BuddyBlockScheduler();
        record(x, 30);
        check.bad("2: a wrong number", () -> x.submit(4, 0, 1, 1));
        check.outside("4: no such job", () -> x.cancel(1));
        check.bad("5: a wrong cost", () -> x.preempt(0, 10));
        check.bad("3: too many ticks", () -> x.advance(51));
        sameEvent(check, "the oldest is there", x, 0, 0, SUBMITTED, 0);
        sameEvent(check, "the latest is there", x, 59, 29, STARTED, 0);
    }

    private static void callsWithoutEvents(Check check) {
        BuddyBlockScheduler x = new BuddyBlockScheduler();
        x.reserve(5, 3, 1);
        x.advance(5);
        x.cancelReservation(0);
        x.setFair(true);
        x.save();
        x.restore();
        check.same("34: none", x.eventCount(), 0);
    }
}
