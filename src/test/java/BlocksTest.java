/** Promises 25 to 31: ordinary questions; the edges stand in ProcessorEdges and BlockEdges. */
final class BlocksTest {
    static void run(Check check) {
        owners(check);
        freeCounts(check);
        largestAndFragmentation(check);
        earliest(check);
        lowest(check);
    }

    private static void owners(Check check) {
        BuddyBlockScheduler x = new BuddyBlockScheduler();
        x.submit(0, 3, 5, 3);
        x.submit(0, 5, 2, 2);
        x.reserve(4, 2, 2);
        check.same("25: running job", x.ownerAt(7, 0), 0);
        check.same("25: its last unit", x.ownerAt(0, 4), 0);
        check.same("25: waiting job", x.ownerAt(0, 5), 1);
        check.same("25: its last unit", x.ownerAt(31, 6), 1);
        check.same("25: behind it", x.ownerAt(31, 7), -1);
        check.same("25: nobody", x.ownerAt(8, 0), -1);
        check.same("25: reservation", x.ownerAt(16, 2), 100);
        check.same("25: its last unit", x.ownerAt(31, 3), 100);
        check.same("25: behind the reservation", x.ownerAt(16, 4), -1);
        check.same("25: before the reservation", x.ownerAt(16, 1), -1);
        x.advance(3);
        check.same("25: the past of a finished job", x.ownerAt(0, 0), -1);
        check.same("26: the past of a finished job", x.freeProcessors(0), 32);
    }

    private static void freeCounts(Check check) {
        BuddyBlockScheduler x = new BuddyBlockScheduler();
        x.submit(0, 0, 3, 3);
        x.submit(0, 2, 3, 3);
        x.reserve(4, 2, 2);
        check.same("26: unit 0", x.freeProcessors(0), 27);
        check.same("26: unit 2", x.freeProcessors(2), 11);
        check.same("26: unit 3", x.freeProcessors(3), 16);
        int[] due = {1, 1, 0, 1, 1, 0};
        for (int order = 0; order < 6; order++) {
            check.same("27: freeBlocks", x.freeBlocks(order), due[order]);
        }
        x.cancel(0);
        check.same("27: the current unit, order 2", x.freeBlocks(2), 1);
        check.same("27: the current unit, order 0", x.freeBlocks(0), 0);
        x.advance(2);
        check.same("27: now the reservation counts", x.freeBlocks(4), 0);
        check.same("27: order 3", x.freeBlocks(3), 1);
        x.advance(2);
        check.same("27: all free", x.freeBlocks(5), 1);
        check.same("27: halves are parts of it", x.freeBlocks(4), 0);
        x.submit(0, 3, 1, 1);
        x.submit(0, 3, 1, 1);
        x.submit(0, 3, 1, 1);
        x.cancel(2);
        check.same("27: neighbours that are no block", x.freeBlocks(3), 2);
        check.same("27: no half", x.freeBlocks(4), 0);
    }

    private static void largestAndFragmentation(Check check) {
        BuddyBlockScheduler x = new BuddyBlockScheduler();
        check.same("28: all", x.largestFree(), 5);
        check.same("29: all", x.fragmentation(), 0.0);
        x.submit(0, 0, 3, 3);
        check.same("28: a half", x.largestFree(), 4);
        check.same("29: a half of 31", x.fragmentation(), 1.0 - 16.0 / 31.0);
        x.submit(0, 4, 3, 3);
        check.same("28: a quarter", x.largestFree(), 3);
        check.same("29: a quarter of 15", x.fragmentation(), 1.0 - 8.0 / 15.0);
        x.submit(0, 3, 3, 3);
        x.submit(0, 2, 3, 3);
        x.submit(0, 1, 3, 3);
        check.same("28: one processor", x.largestFree(), 0);
        check.same("29: one processor", x.fragmentation(), 0.0);
        x.submit(0, 0, 3, 3);
        check.missing("28: none", x::largestFree);
        check.missing("29: none", x::fragmentation);
        check.same("27: none", x.freeBlocks(0), 0);
        check.same("26: none", x.freeProcessors(0), 0);
        x.cancel(4);
        check.same("28: two processors", x.largestFree(), 1);
        check.same("29: one block has all", x.fragmentation(), 0.0);
        BuddyBlockScheduler y = new BuddyBlockScheduler();
        y.reserve(5, 1, 1);
        check.same("28: before the reservation", y.largestFree(), 5);
        y.advance(1);
        check.missing("28: in the reservation", y::largestFree);
    }

    private static void earliest(Check check) {
        BuddyBlockScheduler x = new BuddyBlockScheduler();
        check.same("30: at once", x.earliestStart(5, 40), 0);
        x.reserve(4, 4, 2);
        x.reserve(4, 5, 10);
        check.same("30: before", x.earliestStart(5, 4), 0);
        check.same("30: behind", x.earliestStart(5, 5), 15);
        check.same("30: the upper half before", x.earliestStart(4, 5), 0);
        check.same("30: the lower half behind", x.earliestStart(4, 6), 6);
        x.advance(2);
        check.same("30: not before the clock", x.earliestStart(0, 1), 2);
        check.same("30: the clock counts", x.earliestStart(5, 3), 15);
        check.same("30: changes nothing", x.jobCount(), 0);
    }

    private static void lowest(Check check) {
        BuddyBlockScheduler x = new BuddyBlockScheduler();
        check.same("31: the greatest numbers", x.lowestBlock(5, 1000, 40), 0);
        x.submit(0, 1, 5, 5);
        check.same("31: beside the job", x.lowestBlock(0, 0, 1), 2);
        check.same("31: of order 3", x.lowestBlock(3, 4, 1), 8);
        check.same("31: behind the job", x.lowestBlock(3, 5, 1), 0);
        x.reserve(5, 10, 1);
        check.missing("31: none", () -> x.lowestBlock(0, 10, 1));
        check.missing("31: none in the interval", () -> x.lowestBlock(0, 9, 40));
        check.same("31: up to it", x.lowestBlock(5, 5, 5), 0);
        check.same("31: from its end", x.lowestBlock(5, 11, 40), 0);
        check.same("7: no refusal", x.refusal(), 0);
        x.advance(3);
        check.same("31: before the clock", x.lowestBlock(1, 0, 1), 2);
    }
}
