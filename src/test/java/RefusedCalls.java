import java.util.NoSuchElementException;

/**
 * "A call that throws an exception leaves the state unchanged, except for what refusal returns. If a
 * method can throw several exceptions, they are checked in the order in which they are listed."
 *
 * Each refused call is made in a certain state. The exception is looked at, what refusal answers
 * then, all the answers, all the answers after more calls (which show what is not asked for, such as
 * estimates), and what is saved.
 */
final class RefusedCalls {
    private static final Class<IllegalArgumentException> BAD = IllegalArgumentException.class;
    private static final Class<IllegalStateException> STATE = IllegalStateException.class;
    private static final Class<IndexOutOfBoundsException> OUTSIDE = IndexOutOfBoundsException.class;
    private static final Class<NoSuchElementException> MISSING = NoSuchElementException.class;
    private static final Class<ArithmeticException> UNDEFINED = ArithmeticException.class;

    private final Check check;
    private final String name;
    private final Calls before;
    private final int refusalBefore;
    private final String answers;
    private final String answersLater;
    private final String answersRestored;

    private RefusedCalls(Check check, String name, Calls before) {
        this.check = check;
        this.name = name;
        this.before = before;
        refusalBefore = before.played().refusal();
        answers = Answers.after(before);
        answersLater = Answers.after(before.then(RefusedCalls::goOn));
        answersRestored = Answers.after(before.then(RefusedCalls::goBack));
    }

    static void run(Check check) {
        onANewObject(new RefusedCalls(check, "new", x -> { }));
        withJobsInAllStates(new RefusedCalls(check, "jobs in all states", RefusedCalls::jobsInAllStates));
        withAllPlacesTaken(new RefusedCalls(check, "all places taken", RefusedCalls::allPlacesTaken));
        atTheEndOfTheClock(new RefusedCalls(check, "clock 1000", RefusedCalls::endOfTheClock));
    }

    private void refuse(String what, Class<? extends RuntimeException> kind, int refusal, Calls call) {
        String text = name + ": " + what;
        BuddyBlockScheduler x = before.played();
        check.fails(text, kind, () -> call.on(x));
        check.same(text + ", then refusal()", x.refusal(), refusal);
        Calls after = before.then(call.attempted());
        check.sameLines(text + ", then all answers", Answers.after(after), answers);
        check.sameLines(text + ", then more calls", Answers.after(after.then(RefusedCalls::goOn)), answersLater);
        check.sameLines(text + ", then restore()", Answers.after(after.then(RefusedCalls::goBack)), answersRestored);
    }

    /** The refusal stays as it was: all calls but those of reserve with valid arguments. */
    private void refuse(String what, Class<? extends RuntimeException> kind, Calls call) {
        refuse(what, kind, refusalBefore, call);
    }

    private static void goBack(BuddyBlockScheduler x) {
        attempt(x, BuddyBlockScheduler::restore);
    }

    /** Calls that use all parts of the state; those that are refused in it are left aside. */
    private static void goOn(BuddyBlockScheduler x) {
        attempt(x, y -> y.advance(1));
        for (int job = 0; job < 3; job++) {
            int number = job;
            attempt(x, y -> y.preempt(number, 3));
        }
        attempt(x, y -> y.submit(1, 3, 9, 4));
        attempt(x, y -> y.reserve(2, 60, 4));
        attempt(x, y -> y.advance(9));
        attempt(x, y -> y.cancel(1));
        attempt(x, y -> y.cancelReservation(0));
        attempt(x, y -> y.advance(30));
    }

    private static void attempt(BuddyBlockScheduler x, Calls call) {
        call.attempted().on(x);
    }

    /** A finished job (0), a running one (1), a waiting one (2), cancelled ones (3, 4), a preempted one (5). */
    private static void jobsInAllStates(BuddyBlockScheduler x) {
        x.submit(0, 4, 9, 2);
        x.save();
        x.submit(0, 3, 9, 8);
        x.submit(1, 5, 9, 9);
        x.submit(1, 5, 9, 9);
        x.submit(2, 3, 3, 3);
        x.submit(3, 4, 7, 7);
        x.setFair(true);
        x.reserve(5, 50, 5);
        x.reserve(0, 60, 40);
        x.cancelReservation(1);
        x.advance(2);
        x.cancel(3);
        x.cancel(4);
        x.preempt(5, 2);
        attempt(x, y -> y.reserve(0, 52, 1));
    }

    /** 24 jobs, six reservations and 60 events; what is saved has one job and one reservation less. */
    private static void allPlacesTaken(BuddyBlockScheduler x) {
        x.submit(0, 4, 40, 30);
        x.advance(1);
        for (int job = 1; job < 23; job++) {
            x.submit(job % 4, job % 3, 5 + job, 5);
        }
        for (int i = 0; i < 5; i++) {
            x.reserve(5, 200 + i, 1);
        }
        x.save();
        x.submit(3, 5, 8, 8);
        x.reserve(5, 205, 1);
        x.cancelReservation(4);
        for (int i = 0; i < 24; i++) {
            int job = i;
            attempt(x, y -> y.preempt(job, 1));
        }
        attempt(x, y -> y.reserve(0, 0, 1));
    }

    /** A job that runs and one that waits, both for ever, and a reservation: no processor is free. */
    private static void endOfTheClock(BuddyBlockScheduler x) {
        x.submit(0, 2, 9, 9);
        AdvanceEdges.toClock(x, 999);
        x.submit(2, 4, 7, 7);
        x.save();
        x.submit(1, 5, 9, 9);
        x.reserve(4, 1000, 2);
        x.advance(1);
    }

    private static void onANewObject(RefusedCalls at) {
        at.refuse("submit(4, 0, 1, 1)", BAD, x -> x.submit(4, 0, 1, 1));
        at.refuse("submit(0, 0, 1, 2)", BAD, x -> x.submit(0, 0, 1, 2));
        at.refuse("advance(0)", BAD, x -> x.advance(0));
        at.refuse("advance(51)", BAD, x -> x.advance(51));
        at.refuse("cancel(0)", OUTSIDE, x -> x.cancel(0));
        at.refuse("preempt(0, 0)", OUTSIDE, x -> x.preempt(0, 0));
        at.refuse("preempt(0, 10)", OUTSIDE, x -> x.preempt(0, 10));
        at.refuse("reserve(6, 0, 1)", BAD, 0, x -> x.reserve(6, 0, 1));
        at.refuse("cancelReservation(0)", OUTSIDE, x -> x.cancelReservation(0));
        at.refuse("reservedProcessor(0)", OUTSIDE, x -> x.reservedProcessor(0));
        at.refuse("averageWait()", UNDEFINED, BuddyBlockScheduler::averageWait);
        at.refuse("utilization()", UNDEFINED, BuddyBlockScheduler::utilization);
        at.refuse("usage(4)", OUTSIDE, x -> x.usage(4));
        at.refuse("busiestBlock()", MISSING, BuddyBlockScheduler::busiestBlock);
        at.refuse("event(0, 0)", OUTSIDE, x -> x.event(0, 0));
        at.refuse("restore()", STATE, BuddyBlockScheduler::restore);
    }

    private static void withJobsInAllStates(RefusedCalls at) {
        at.check.same("7: refused before", at.refusalBefore, 3);
        int[] states = {2, 1, 0, 3, 3, 0};
        for (int job = 0; job < states.length; job++) {
            at.check.same("13: job " + job, at.before.played().state(job), states[job]);
        }
        refuseSubmit(at, BAD);
        at.refuse("advance(0)", BAD, x -> x.advance(0));
        at.refuse("advance(51)", BAD, x -> x.advance(51));
        at.refuse("cancel(-1)", OUTSIDE, x -> x.cancel(-1));
        at.refuse("cancel(6)", OUTSIDE, x -> x.cancel(6));
        at.refuse("cancel(0), finished", STATE, x -> x.cancel(0));
        at.refuse("cancel(3), cancelled", STATE, x -> x.cancel(3));
        at.refuse("preempt(-1, 0)", OUTSIDE, x -> x.preempt(-1, 0));
        at.refuse("preempt(6, 0)", OUTSIDE, x -> x.preempt(6, 0));
        at.refuse("preempt(6, 10)", OUTSIDE, x -> x.preempt(6, 10));
        at.refuse("preempt(1, -1)", BAD, x -> x.preempt(1, -1));
        at.refuse("preempt(1, 10)", BAD, x -> x.preempt(1, 10));
        at.refuse("preempt(2, 10), waiting", BAD, x -> x.preempt(2, 10));
        at.refuse("preempt(0, 0), finished", STATE, x -> x.preempt(0, 0));
        at.refuse("preempt(2, 0), waiting", STATE, x -> x.preempt(2, 0));
        at.refuse("preempt(3, 0), cancelled", STATE, x -> x.preempt(3, 0));
        refuseReserveOutOfRange(at);
        at.refuse("reserve(0, 1, 1), before the clock", STATE, 1, x -> x.reserve(0, 1, 1));
        at.refuse("reserve(0, 50, 1), no block", STATE, 3, x -> x.reserve(0, 50, 1));
        at.refuse("reserve(5, 49, 2), no block", STATE, 3, x -> x.reserve(5, 49, 2));
        at.refuse("cancelReservation(-1)", OUTSIDE, x -> x.cancelReservation(-1));
        at.refuse("cancelReservation(2)", OUTSIDE, x -> x.cancelReservation(2));
        at.refuse("cancelReservation(1), cancelled", STATE, x -> x.cancelReservation(1));
        at.refuse("reservedProcessor(2)", OUTSIDE, x -> x.reservedProcessor(2));
        at.refuse("reservedProcessor(1), cancelled", STATE, x -> x.reservedProcessor(1));
        refuseQuestionsOfJobs(at);
        refuseQuestionsOfBlocks(at);
    }

    private static void refuseSubmit(RefusedCalls at, Class<? extends RuntimeException> kind) {
        at.refuse("submit(-1, 0, 1, 1)", kind, x -> x.submit(-1, 0, 1, 1));
        at.refuse("submit(4, 0, 1, 1)", kind, x -> x.submit(4, 0, 1, 1));
        at.refuse("submit(0, -1, 1, 1)", kind, x -> x.submit(0, -1, 1, 1));
        at.refuse("submit(0, 6, 1, 1)", kind, x -> x.submit(0, 6, 1, 1));
        at.refuse("submit(0, 0, 0, 1)", kind, x -> x.submit(0, 0, 0, 1));
        at.refuse("submit(0, 0, 41, 1)", kind, x -> x.submit(0, 0, 41, 1));
        at.refuse("submit(0, 0, 5, 0)", kind, x -> x.submit(0, 0, 5, 0));
        at.refuse("submit(0, 0, 5, 6)", kind, x -> x.submit(0, 0, 5, 6));
    }

    /** The numbers are such that some of the other reasons hold, too. */
    private static void refuseReserveOutOfRange(RefusedCalls at) {
        at.refuse("reserve(-1, 0, 1)", BAD, x -> x.reserve(-1, 0, 1));
        at.refuse("reserve(6, 50, 1)", BAD, x -> x.reserve(6, 50, 1));
        at.refuse("reserve(0, -1, 1)", BAD, x -> x.reserve(0, -1, 1));
        at.refuse("reserve(0, 1001, 1)", BAD, x -> x.reserve(0, 1001, 1));
        at.refuse("reserve(0, 1000, 0)", BAD, x -> x.reserve(0, 1000, 0));
        at.refuse("reserve(0, 0, 41)", BAD, x -> x.reserve(0, 0, 41));
    }

    private static void refuseQuestionsOfJobs(RefusedCalls at) {
        at.refuse("state(6)", OUTSIDE, x -> x.state(6));
        at.refuse("startTime(6)", OUTSIDE, x -> x.startTime(6));
        at.refuse("startTime(0), finished", STATE, x -> x.startTime(0));
        at.refuse("firstProcessor(6)", OUTSIDE, x -> x.firstProcessor(6));
        at.refuse("firstProcessor(3), cancelled", STATE, x -> x.firstProcessor(3));
        at.refuse("promise(6)", OUTSIDE, x -> x.promise(6));
        at.refuse("finishTime(6)", OUTSIDE, x -> x.finishTime(6));
        at.refuse("finishTime(1), running", STATE, x -> x.finishTime(1));
        at.refuse("preemptions(6)", OUTSIDE, x -> x.preemptions(6));
        at.refuse("waitTime(6)", OUTSIDE, x -> x.waitTime(6));
        at.refuse("waitTime(2), waiting", STATE, x -> x.waitTime(2));
        at.refuse("slowdown(6)", OUTSIDE, x -> x.slowdown(6));
        at.refuse("slowdown(4), cancelled", STATE, x -> x.slowdown(4));
        at.refuse("usage(-1)", OUTSIDE, x -> x.usage(-1));
        at.refuse("event(60, 0)", OUTSIDE, x -> x.event(60, 0));
        at.refuse("event(0, 3)", OUTSIDE, x -> x.event(0, 3));
    }

    private static void refuseQuestionsOfBlocks(RefusedCalls at) {
        at.refuse("ownerAt(32, 0)", OUTSIDE, x -> x.ownerAt(32, 0));
        at.refuse("ownerAt(0, -1)", OUTSIDE, x -> x.ownerAt(0, -1));
        at.refuse("freeProcessors(-1)", OUTSIDE, x -> x.freeProcessors(-1));
        at.refuse("freeBlocks(6)", OUTSIDE, x -> x.freeBlocks(6));
        at.refuse("earliestStart(6, 1)", BAD, x -> x.earliestStart(6, 1));
        at.refuse("earliestStart(0, 41)", BAD, x -> x.earliestStart(0, 41));
        at.refuse("lowestBlock(6, 50, 1)", BAD, x -> x.lowestBlock(6, 50, 1));
        at.refuse("lowestBlock(0, 50, 41)", BAD, x -> x.lowestBlock(0, 50, 41));
        at.refuse("lowestBlock(0, 50, 1)", MISSING, x -> x.lowestBlock(0, 50, 1));
        at.refuse("blockStarts(6, 0)", BAD, x -> x.blockStarts(6, 0));
        at.refuse("blockStarts(2, 2)", BAD, x -> x.blockStarts(2, 2));
    }

    private static void withAllPlacesTaken(RefusedCalls at) {
        at.check.same("7: refused before", at.refusalBefore, 1);
        at.check.same("12: all jobs", at.before.played().jobCount(), 24);
        at.check.same("34: all events", at.before.played().eventCount(), 60);
        at.refuse("submit(0, 0, 1, 1), 24 jobs", STATE, x -> x.submit(0, 0, 1, 1));
        refuseSubmit(at, BAD);
        at.refuse("cancel(24)", OUTSIDE, x -> x.cancel(24));
        at.refuse("preempt(24, 0)", OUTSIDE, x -> x.preempt(24, 0));
        refuseReserveOutOfRange(at);
        at.refuse("reserve(0, 900, 1), six", STATE, 2, x -> x.reserve(0, 900, 1));
        at.refuse("reserve(0, 200, 1), six and no block", STATE, 2, x -> x.reserve(0, 200, 1));
        at.refuse("reserve(0, 0, 1), six and before the clock", STATE, 1, x -> x.reserve(0, 0, 1));
        at.refuse("cancelReservation(6)", OUTSIDE, x -> x.cancelReservation(6));
        at.refuse("cancelReservation(4), cancelled", STATE, x -> x.cancelReservation(4));
        at.refuse("reservedProcessor(6)", OUTSIDE, x -> x.reservedProcessor(6));
        at.refuse("event(60, 0)", OUTSIDE, x -> x.event(60, 0));
        at.refuse("event(59, 3)", OUTSIDE, x -> x.event(59, 3));
    }

    private static void atTheEndOfTheClock(RefusedCalls at) {
        at.check.same("7: not refused before", at.refusalBefore, 0);
        at.refuse("advance(1)", STATE, x -> x.advance(1));
        at.refuse("advance(50)", STATE, x -> x.advance(50));
        at.refuse("advance(51)", BAD, x -> x.advance(51));
        at.refuse("advance(0)", BAD, x -> x.advance(0));
        at.refuse("reserve(0, 999, 2), before the clock", STATE, 1, x -> x.reserve(0, 999, 2));
        at.refuse("reserve(0, 1001, 1)", BAD, 0, x -> x.reserve(0, 1001, 1));
        at.refuse("reserve(5, 1000, 1), no block", STATE, 3, x -> x.reserve(5, 1000, 1));
        at.refuse("preempt(2, 0), waiting", STATE, x -> x.preempt(2, 0));
        at.refuse("lowestBlock(5, 1000, 40)", MISSING, x -> x.lowestBlock(5, 1000, 40));
        at.refuse("largestFree(), none", MISSING, BuddyBlockScheduler::largestFree);
        at.refuse("fragmentation(), none", MISSING, BuddyBlockScheduler::fragmentation);
    }
}
