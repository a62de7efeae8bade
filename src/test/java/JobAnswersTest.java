/** Promises 12 to 17, 19 and 21: one job through its states; the edges stand in JobEdges. */
final class JobAnswersTest {
    static void run(Check check) {
        throughTheStates(check);
        waitTimes(check);
        slowdowns(check);
    }

    private static void throughTheStates(Check check) {
        BuddyBlockScheduler x = new BuddyBlockScheduler();
        x.submit(0, 4, 9, 9);
        x.submit(0, 5, 4, 3);
        check.same("12: jobCount", x.jobCount(), 2);
        check.same("13: waiting", x.state(1), 0);
        check.same("14: planned start", x.startTime(1), 9);
        check.same("15: planned processor", x.firstProcessor(1), 0);
        check.same("16: promise", x.promise(1), 9);
        check.refused("17: waiting", () -> x.finishTime(1));
        check.refused("19: never started", () -> x.waitTime(1));
        check.refused("21: waiting", () -> x.slowdown(1));
        x.advance(10);
        check.same("13: running", x.state(1), 1);
        check.same("14: started", x.startTime(1), 9);
        check.same("15: processor", x.firstProcessor(1), 0);
        check.refused("17: running", () -> x.finishTime(1));
        check.refused("21: running", () -> x.slowdown(1));
        check.same("19: started", x.waitTime(1), 9);
        x.advance(10);
        check.same("13: finished", x.state(1), 2);
        check.refused("14: finished", () -> x.startTime(1));
        check.refused("15: finished", () -> x.firstProcessor(1));
        check.same("16: promise of a finished job", x.promise(1), 9);
        check.same("17: finished", x.finishTime(1), 12);
        check.same("19: finished", x.waitTime(1), 9);
        check.same("21: finished", x.slowdown(1), 4.0f);
        check.same("12: finished jobs count", x.jobCount(), 2);
    }

    private static void waitTimes(Check check) {
        BuddyBlockScheduler x = new BuddyBlockScheduler();
        x.submit(0, 5, 9, 9);
        x.advance(4);
        x.submit(0, 5, 1, 1);
        x.advance(5);
        check.same("19: since it was submitted", x.waitTime(1), 5);
        x.cancel(1);
        check.same("19: of a cancelled job", x.waitTime(1), 5);
    }

    private static void slowdowns(Check check) {
        BuddyBlockScheduler x = new BuddyBlockScheduler();
        x.submit(0, 5, 5, 5);
        x.advance(1);
        x.submit(0, 5, 7, 3);
        x.submit(0, 5, 1, 1);
        x.advance(10);
        check.same("21: without waiting", x.slowdown(0), 1.0f);
        check.same("21: seven thirds", x.slowdown(1), 7.0f / 3.0f);
        check.same("21: eight", x.slowdown(2), 8.0f);
        BuddyBlockScheduler y = new BuddyBlockScheduler();
        y.submit(0, 0, 3, 3);
        y.cancel(0);
        check.refused("21: cancelled", () -> y.slowdown(0));
    }
}
