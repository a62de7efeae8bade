/** Promises 34 (eventCount) and 35 (event). */
final class EventsTest {
    static void run(Check check) {
        allKindsInOrder(check);
        wrongInputs(check);
        onlyTheLatestSixty(check);
    }

    private static void allKindsInOrder(Check check) {
        BuddyBlockScheduler x = new BuddyBlockScheduler();
        x.submit(0, 4, 9, 3);
        x.submit(1, 4, 9, 3);
        x.submit(2, 5, 9, 9);
        x.submit(3, 5, 9, 9);
        x.advance(3);
        x.cancel(2);
        x.reserve(0, 50, 1);
        x.cancelReservation(0);
        int[][] due = {
            {0, 0, 0}, {0, 1, 0}, {0, 0, 1}, {0, 1, 1}, {0, 0, 2}, {0, 0, 3},
            {3, 2, 0}, {3, 2, 1}, {3, 5, 2}, {3, 5, 3}, {3, 1, 2}, {3, 3, 2}, {3, 5, 3}, {3, 1, 3},
        };
        check.same("34: number", x.eventCount(), due.length);
        for (int i = 0; i < due.length; i++) {
            for (int column = 0; column < 3; column++) {
                check.same("35: event(" + i + ", " + column + ")", x.event(i, column), due[i][column]);
            }
        }
    }

    private static void wrongInputs(Check check) {
        BuddyBlockScheduler x = new BuddyBlockScheduler();
        check.outside("35: no event", () -> x.event(0, 0));
        x.submit(0, 4, 9, 3);
        int[][] wrong = {
            {-1, 0}, {2, 0}, {60, 0}, {0, -1}, {0, 3}, {Integer.MAX_VALUE, 0}, {Integer.MIN_VALUE, 0},
            {0, Integer.MAX_VALUE}, {0, Integer.MIN_VALUE},
        };
        for (int[] w : wrong) {
            check.outside("35: event" + java.util.Arrays.toString(w), () -> x.event(w[0], w[1]));
        }
    }

    private static void onlyTheLatestSixty(Check check) {
        BuddyBlockScheduler x = new BuddyBlockScheduler();
        x.submit(0, 0, 40, 40);
        for (int i = 1; i <= 29; i++) {
            x.advance(1);
            x.preempt(0, 0);
        }
        check.same("34: sixty", x.eventCount(), 60);
        check.same("35: the first one is there", x.event(0, 1), 0);
        x.advance(1);
        x.preempt(0, 0);
        check.same("34: sixty still", x.eventCount(), 60);
        check.same("35: the oldest two are gone", x.event(0, 1), 4);
        check.same("35: its time", x.event(0, 0), 1);
        check.same("35: the second one", x.event(1, 1), 1);
        check.same("35: the last one", x.event(59, 1), 1);
        check.same("35: its time", x.event(59, 0), 30);
        check.outside("35: event(60, 0)", () -> x.event(60, 0));
        x.submit(0, 5, 1, 1);
        check.same("35: the job of the last one", x.event(59, 2), 1);
        check.same("35: the oldest is a start now", x.event(0, 1), 1);
    }
}
