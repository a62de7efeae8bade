/** Promise 10 (setFair) and the order of a replanning; the edges stand in FairnessEdges. */
final class FairnessTest {
    static void run(Check check) {
        lessUsageIsTakenFirst(check);
        offItIsByPlannedStart(check);
    }

    private static BuddyBlockScheduler twoUsers() {
        BuddyBlockScheduler x = new BuddyBlockScheduler();
        x.submit(0, 5, 9, 9);
        x.submit(0, 4, 6, 6);
        x.submit(1, 4, 6, 6);
        x.submit(1, 4, 3, 3);
        return x;
    }

    private static void lessUsageIsTakenFirst(Check check) {
        BuddyBlockScheduler x = twoUsers();
        x.setFair(true);
        x.advance(2);
        x.cancel(0);
        check.same("10: user with usage", x.startTime(1), 5);
        check.same("10: user without usage", x.startTime(2), 2);
        check.same("10: user without usage, later", x.startTime(3), 2);
    }

    private static void offItIsByPlannedStart(Check check) {
        BuddyBlockScheduler x = twoUsers();
        x.advance(2);
        x.cancel(0);
        check.same("10: first", x.startTime(1), 2);
        check.same("10: second", x.startTime(2), 2);
        check.same("10: third", x.startTime(3), 8);
        check.same("10: of equal planned starts the lower number first", x.firstProcessor(1), 0);
        check.same("10: the higher number behind it", x.firstProcessor(2), 16);
    }
}
