/** Promise 4 (cancel): ordinary calls; the edges stand in CancelEdges. */
final class CancelTest {
    static void run(Check check) {
        cancelsAWaitingJob(check);
        cancelsARunningJob(check);
    }

    private static void cancelsAWaitingJob(Check check) {
        BuddyBlockScheduler x = new BuddyBlockScheduler();
        x.submit(0, 5, 10, 10);
        x.submit(1, 5, 10, 10);
        x.submit(2, 5, 10, 10);
        check.same("4: a waiting job", x.cancel(1), 0);
        check.same("4: its state", x.state(1), 3);
        check.same("4: the next one moves up", x.startTime(2), 10);
        check.same("4: its promise stays", x.promise(2), 20);
        check.same("4: usage of a job that never ran", x.usage(1), 0);
        check.refused("4: no wait time", () -> x.waitTime(1));
    }

    private static void cancelsARunningJob(Check check) {
        BuddyBlockScheduler x = new BuddyBlockScheduler();
        x.submit(0, 5, 10, 10);
        x.submit(1, 5, 10, 10);
        x.advance(4);
        check.same("4: a running job", x.cancel(0), 1);
        check.same("4: its state", x.state(0), 3);
        check.same("4: the next one runs at once", x.state(1), 1);
        check.same("4: from now on", x.startTime(1), 4);
        check.same("4: the usage stays", x.usage(0), 128);
        check.same("4: the wait time stays", x.waitTime(0), 0);
        x.advance(3);
        check.same("4: the usage grows no more", x.usage(0), 128);
        check.refused("4: no finish time", () -> x.finishTime(0));
        check.refused("4: no start", () -> x.startTime(0));
        check.refused("4: no processor", () -> x.firstProcessor(0));
    }
}
