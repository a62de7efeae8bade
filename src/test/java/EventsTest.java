/** Promises 34 (eventCount) and 35 (event): all kinds; the edges stand in EventEdges. */
final class EventsTest {
    static void run(Check check) {
        allKindsInOrder(check);
    }

    private static void allKindsInOrder(Check check) {
        BuddyBlockScheduler x = new BuddyBlockScheduler();
        x.submit(0, 4, 9, 3);
        x.submit(1, 4, 9, 3);
        x.submit(2, 5, 9, 9);
        x.submit(3, 5, 9, 9);
        x.advance(3);
        x.cancel(2);
        x.reserve(0, 50, 1);
        x.cancelReservation(0);
        int[][] due = {
            {0, 0, 0}, {0, 1, 0}, {0, 0, 1}, {0, 1, 1}, {0, 0, 2}, {0, 0, 3},
            {3, 2, 0}, {3, 2, 1}, {3, 5, 2}, {3, 5, 3}, {3, 1, 2}, {3, 3, 2}, {3, 5, 3}, {3, 1, 3},
        };
        check.same("34: number", x.eventCount(), due.length);
        for (int i = 0; i < due.length; i++) {
            for (int column = 0; column < 3; column++) {
                check.same("35: event(" + i + ", " + column + ")", x.event(i, column), due[i][column]);
            }
        }
    }
}
