/** The four examples of the document. */
final class ExamplesTest {
    static void run(Check check) {
        startsEarlierThanPlanned(check);
        halvesOfAllProcessors(check);
        refusedReservation(check);
        preemptedJob(check);
    }

    private static void startsEarlierThanPlanned(Check check) {
        BuddyBlockScheduler x = new BuddyBlockScheduler();
        check.same("example 1: submit(0, 5, 10, 4)", x.submit(0, 5, 10, 4), 0);
        check.same("example 1: submit(1, 5, 5, 5)", x.submit(1, 5, 5, 5), 10);
        check.same("example 1: startTime(1)", x.startTime(1), 10);
        check.same("example 1: advance(4)", x.advance(4), 1);
        check.same("example 1: startTime(1) later", x.startTime(1), 4);
        check.same("example 1: promise(1)", x.promise(1), 10);
    }

    private static void halvesOfAllProcessors(Check check) {
        BuddyBlockScheduler x = new BuddyBlockScheduler();
        check.same("example 2: submit(0, 4, 6, 6)", x.submit(0, 4, 6, 6), 0);
        check.same("example 2: submit(0, 5, 3, 3)", x.submit(0, 5, 3, 3), 6);
        check.same("example 2: submit(1, 4, 6, 6)", x.submit(1, 4, 6, 6), 0);
        check.same("example 2: submit(1, 4, 7, 7)", x.submit(1, 4, 7, 7), 9);
        check.same("example 2: startTime(2)", x.startTime(2), 0);
        check.same("example 2: firstProcessor(2)", x.firstProcessor(2), 16);
        check.same("example 2: startTime(3)", x.startTime(3), 9);
    }

    private static void refusedReservation(Check check) {
        BuddyBlockScheduler x = new BuddyBlockScheduler();
        check.same("example 3: reserve(5, 3, 2)", x.reserve(5, 3, 2), 0);
        check.same("example 3: submit(0, 0, 4, 4)", x.submit(0, 0, 4, 4), 5);
        check.same("example 3: startTime(0)", x.startTime(0), 5);
        check.refused("example 3: reserve(0, 4, 1)", () -> x.reserve(0, 4, 1));
        check.same("example 3: refusal()", x.refusal(), 3);
    }

    private static void preemptedJob(Check check) {
        BuddyBlockScheduler x = new BuddyBlockScheduler();
        check.same("example 4: submit(0, 1, 8, 8)", x.submit(0, 1, 8, 8), 0);
        check.same("example 4: advance(3)", x.advance(3), 0);
        check.same("example 4: preempt(0, 2)", x.preempt(0, 2), 3);
        check.same("example 4: startTime(0)", x.startTime(0), 3);
        check.same("example 4: state(0)", x.state(0), 1);
        check.bad("example 4: preempt(0, 10)", () -> x.preempt(0, 10));
    }
}
