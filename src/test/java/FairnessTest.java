/** Promise 10 (setFair) and the order of a replanning. */
final class FairnessTest {
    static void run(Check check) {
        answersTheSettingBefore(check);
        lessUsageIsTakenFirst(check);
        offItIsByPlannedStart(check);
        equalUsageGoesByPlannedStart(check);
        switchingReplansNothing(check);
    }

    private static void answersTheSettingBefore(Check check) {
        BuddyBlockScheduler x = new BuddyBlockScheduler();
        check.same("10: off at first", x.setFair(true), false);
        check.same("10: on", x.setFair(true), true);
        check.same("10: on still", x.setFair(false), true);
        check.same("10: off again", x.setFair(true), false);
    }

    private static BuddyBlockScheduler twoUsers() {
        BuddyBlockScheduler x = new BuddyBlockScheduler();
        x.submit(0, 5, 9, 9);
        x.submit(0, 4, 6, 6);
        x.submit(1, 4, 6, 6);
        x.submit(1, 4, 3, 3);
        return x;
    }

    private static void lessUsageIsTakenFirst(Check check) {
        BuddyBlockScheduler x = twoUsers();
        x.setFair(true);
        x.advance(2);
        x.cancel(0);
        check.same("10: user with usage", x.startTime(1), 5);
        check.same("10: user without usage", x.startTime(2), 2);
        check.same("10: user without usage, later", x.startTime(3), 2);
    }

    private static void offItIsByPlannedStart(Check check) {
        BuddyBlockScheduler x = twoUsers();
        x.advance(2);
        x.cancel(0);
        check.same("10: first", x.startTime(1), 2);
        check.same("10: second", x.startTime(2), 2);
        check.same("10: third", x.startTime(3), 8);
        check.same("10: of equal planned starts the lower number first", x.firstProcessor(1), 0);
        check.same("10: the higher number behind it", x.firstProcessor(2), 16);
    }

    private static void equalUsageGoesByPlannedStart(Check check) {
        BuddyBlockScheduler x = new BuddyBlockScheduler();
        x.setFair(true);
        x.submit(0, 5, 10, 2);
        x.reserve(5, 12, 3);
        x.submit(1, 5, 5, 5);
        x.submit(2, 5, 2, 2);
        x.advance(2);
        check.same("10: the earlier planned start", x.startTime(2), 2);
        check.same("10: the later planned start", x.startTime(1), 4);
    }

    private static void switchingReplansNothing(Check check) {
        BuddyBlockScheduler x = twoUsers();
        x.advance(2);
        int events = x.eventCount();
        x.setFair(true);
        check.same("10: start stays", x.startTime(3), 15);
        check.same("10: no event", x.eventCount(), events);
    }
}
