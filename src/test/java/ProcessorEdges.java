/** The edges that promises 25 to 29 name: what is asked of the processors in a unit. */
final class ProcessorEdges {
    static void run(Check check) {
        processorRange(check);
        unitRangeOfOwners(check);
        ownerOfEachProcessor(check);
        ownersOfAllReservations(check);
        ownerAtTheEndsOfAnInterval(check);
        ownerOfTheLastJob(check);
        noOwnerOfJobsThatAreOver(check);
        pastByTheAllocationsNow(check);
        unitRangeOfFreeProcessors(check);
        freeFromNoneToAll(check);
        orderRange(check);
        freeBlocksOfAll(check);
        freeBlocksOfNone(check);
        freeBlocksOfEachOrder(check);
        neighboursThatAreNoBlock(check);
        buddiesAreOneLargerBlock(check);
        onlyTheCurrentUnit(check);
        largestFromNoneToFive(check);
        fragmentationOfNone(check);
        fragmentationOfOneBlock(check);
        fragmentationOfManyBlocks(check);
    }

    /** "the processor, 0 to 31" */
    private static void processorRange(Check check) {
        BuddyBlockScheduler x = new BuddyBlockScheduler();
        x.submit(0, 5, 3, 3);
        for (int processor : new int[] {-1, 32, 33, 64, Integer.MIN_VALUE, Integer.MAX_VALUE}) {
            check.outside("25: processor " + processor, () -> x.ownerAt(processor, 0));
        }
        check.same("25: processor 0", x.ownerAt(0, 0), 0);
        check.same("25: processor 31", x.ownerAt(31, 0), 0);
        check.outside("25: processor 32 and unit -1", () -> x.ownerAt(32, -1));
    }

    /** "the unit, 0 or greater" */
    private static void unitRangeOfOwners(Check check) {
        BuddyBlockScheduler x = new BuddyBlockScheduler();
        x.submit(0, 5, 3, 3);
        check.outside("25: unit -1", () -> x.ownerAt(0, -1));
        check.outside("25: the least unit", () -> x.ownerAt(0, Integer.MIN_VALUE));
        check.same("25: unit 0", x.ownerAt(0, 0), 0);
        check.same("25: unit 1000", x.ownerAt(0, 1000), -1);
        check.same("25: unit 1001", x.ownerAt(0, 1001), -1);
        check.same("25: the greatest unit", x.ownerAt(31, Integer.MAX_VALUE), -1);
    }

    private static void ownerOfEachProcessor(Check check) {
        BuddyBlockScheduler x = new BuddyBlockScheduler();
        x.submit(0, 0, 3, 3);
        x.submit(0, 1, 3, 3);
        x.submit(0, 2, 3, 3);
        x.submit(0, 3, 3, 3);
        x.reserve(4, 0, 1);
        for (int processor = 0; processor < 32; processor++) {
            int due = processor == 0 ? 0 : processor == 1 ? -1 : processor < 4 ? 1 : processor < 8 ? 2
                    : processor < 16 ? 3 : 100;
            check.same("25: ownerAt(" + processor + ", 0)", x.ownerAt(processor, 0), due);
        }
    }

    /** "100 plus the number of a reservation" */
    private static void ownersOfAllReservations(Check check) {
        BuddyBlockScheduler x = new BuddyBlockScheduler();
        for (int i = 0; i < 6; i++) {
            x.reserve(0, 0, 1);
        }
        for (int i = 0; i < 6; i++) {
            check.same("25: reservation " + i, x.ownerAt(i, 0), 100 + i);
        }
        x.cancelReservation(5);
        check.same("25: cancelled", x.ownerAt(5, 0), -1);
        check.same("25: not cancelled", x.ownerAt(4, 0), 104);
    }

    private static void ownerAtTheEndsOfAnInterval(Check check) {
        BuddyBlockScheduler x = AdvanceEdges.at(2);
        x.submit(0, 3, 5, 3);
        x.submit(0, 5, 2, 2);
        x.reserve(4, 4, 2);
        check.same("25: before the running job", x.ownerAt(7, 1), -1);
        check.same("25: its first unit", x.ownerAt(7, 2), 0);
        check.same("25: its last unit", x.ownerAt(7, 6), 0);
        check.same("25: the first unit of the waiting job", x.ownerAt(7, 7), 1);
        check.same("25: its last unit", x.ownerAt(7, 8), 1);
        check.same("25: behind it", x.ownerAt(7, 9), -1);
        check.same("25: before the reservation", x.ownerAt(16, 3), -1);
        check.same("25: its first unit", x.ownerAt(16, 4), 100);
        check.same("25: its last unit", x.ownerAt(31, 5), 100);
        check.same("25: behind it", x.ownerAt(31, 6), -1);
        check.same("25: beside it", x.ownerAt(15, 5), -1);
    }

    private static void ownerOfTheLastJob(Check check) {
        BuddyBlockScheduler x = new BuddyBlockScheduler();
        for (int job = 0; job < 24; job++) {
            x.submit(0, 0, 1, 1);
        }
        check.same("25: job 23", x.ownerAt(23, 0), 23);
        check.same("25: nobody", x.ownerAt(24, 0), -1);
    }

    /** "Finished and cancelled jobs have no allocations." */
    private static void noOwnerOfJobsThatAreOver(Check check) {
        BuddyBlockScheduler x = new BuddyBlockScheduler();
        x.submit(0, 0, 9, 2);
        x.submit(0, 0, 9, 9);
        x.submit(0, 0, 9, 9);
        x.cancel(1);
        x.advance(2);
        check.same("25: finished, in the past", x.ownerAt(0, 0), -1);
        check.same("25: finished, now", x.ownerAt(0, 2), -1);
        check.same("25: cancelled, in the past", x.ownerAt(1, 0), -1);
        check.same("25: cancelled, later", x.ownerAt(1, 8), -1);
        check.same("25: running", x.ownerAt(2, 0), 2);
        check.same("26: in the past", x.freeProcessors(0), 31);
    }

    /** "A unit of the past is looked at by the allocations that there are now." */
    private static void pastByTheAllocationsNow(Check check) {
        BuddyBlockScheduler x = new BuddyBlockScheduler();
        x.submit(0, 5, 9, 9);
        x.advance(4);
        x.preempt(0, 0);
        check.same("25: before its last start", x.ownerAt(0, 3), -1);
        check.same("25: from its last start on", x.ownerAt(0, 4), 0);
        check.same("26: before its last start", x.freeProcessors(3), 32);
        check.same("31: before its last start", x.lowestBlock(5, 0, 4), 0);
        check.missing("31: one unit more", () -> x.lowestBlock(0, 0, 5));
    }

    /** "the unit, 0 or greater" */
    private static void unitRangeOfFreeProcessors(Check check) {
        BuddyBlockScheduler x = new BuddyBlockScheduler();
        x.submit(0, 2, 1, 1);
        check.outside("26: unit -1", () -> x.freeProcessors(-1));
        check.outside("26: the least unit", () -> x.freeProcessors(Integer.MIN_VALUE));
        check.same("26: unit 0", x.freeProcessors(0), 28);
        check.same("26: unit 1", x.freeProcessors(1), 32);
        check.same("26: unit 1001", x.freeProcessors(1001), 32);
        check.same("26: the greatest unit", x.freeProcessors(Integer.MAX_VALUE), 32);
    }

    /** "0 to 32" */
    private static void freeFromNoneToAll(Check check) {
        BuddyBlockScheduler x = new BuddyBlockScheduler();
        check.same("26: all", x.freeProcessors(0), 32);
        for (int job = 0; job < 24; job++) {
            x.submit(0, 0, 2, 2);
            check.same("26: after job " + job, x.freeProcessors(1), 31 - job);
        }
        x.reserve(2, 1, 1);
        x.reserve(1, 1, 1);
        x.reserve(0, 1, 1);
        check.same("26: one", x.freeProcessors(1), 1);
        x.reserve(0, 1, 1);
        check.same("26: none", x.freeProcessors(1), 0);
        check.same("26: in another unit", x.freeProcessors(0), 8);
    }

    /** "the order of the block, 0 to 5" */
    private static void orderRange(Check check) {
        BuddyBlockScheduler x = new BuddyBlockScheduler();
        for (int order : new int[] {-1, 6, 31, 32, Integer.MIN_VALUE, Integer.MAX_VALUE}) {
            check.outside("27: freeBlocks(" + order + ")", () -> x.freeBlocks(order));
        }
        check.same("27: freeBlocks(0)", x.freeBlocks(0), 0);
        check.same("27: freeBlocks(5)", x.freeBlocks(5), 1);
    }

    private static void sameBlocks(Check check, String what, BuddyBlockScheduler x, int... due) {
        for (int order = 0; order < 6; order++) {
            check.same("27: " + what + ", order " + order, x.freeBlocks(order), due[order]);
        }
    }

    private static void freeBlocksOfAll(Check check) {
        sameBlocks(check, "all is free", new BuddyBlockScheduler(), 0, 0, 0, 0, 0, 1);
    }

    private static void freeBlocksOfNone(Check check) {
        BuddyBlockScheduler x = new BuddyBlockScheduler();
        x.submit(0, 5, 3, 3);
        sameBlocks(check, "nothing is free", x, 0, 0, 0, 0, 0, 0);
    }

    private static void freeBlocksOfEachOrder(Check check) {
        BuddyBlockScheduler x = new BuddyBlockScheduler();
        x.submit(0, 0, 3, 3);
        sameBlocks(check, "one is taken", x, 1, 1, 1, 1, 1, 0);
        BuddyBlockScheduler y = new BuddyBlockScheduler();
        for (int order = 4; order >= 0; order--) {
            y.submit(0, order, 3, 3);
        }
        sameBlocks(check, "one is free", y, 1, 0, 0, 0, 0, 0);
        BuddyBlockScheduler z = new BuddyBlockScheduler();
        z.submit(0, 4, 3, 3);
        sameBlocks(check, "a half is taken", z, 0, 0, 0, 0, 1, 0);
    }

    /** "the first one is a multiple of this number" */
    private static void neighboursThatAreNoBlock(Check check) {
        BuddyBlockScheduler x = new BuddyBlockScheduler();
        for (int job = 0; job < 4; job++) {
            x.submit(0, 3, 3, 3);
        }
        x.cancel(1);
        x.cancel(2);
        check.same("26: sixteen neighbours", x.freeProcessors(0), 16);
        sameBlocks(check, "processors 8 to 23", x, 0, 0, 0, 2, 0, 0);
        check.same("28: processors 8 to 23", x.largestFree(), 3);
        check.same("29: processors 8 to 23", x.fragmentation(), 0.5);
    }

    /** "and are no part of a larger block that is free" */
    private static void buddiesAreOneLargerBlock(Check check) {
        BuddyBlockScheduler x = new BuddyBlockScheduler();
        for (int job = 0; job < 4; job++) {
            x.submit(0, 3, 3, 3);
        }
        x.cancel(2);
        sameBlocks(check, "a quarter", x, 0, 0, 0, 1, 0, 0);
        x.cancel(3);
        sameBlocks(check, "its buddy, too", x, 0, 0, 0, 0, 1, 0);
        x.cancel(0);
        sameBlocks(check, "three quarters", x, 0, 0, 0, 1, 1, 0);
        x.cancel(1);
        sameBlocks(check, "all four", x, 0, 0, 0, 0, 0, 1);
    }

    /** "free in the current unit" */
    private static void onlyTheCurrentUnit(Check check) {
        BuddyBlockScheduler x = new BuddyBlockScheduler();
        x.reserve(5, 1, 1);
        sameBlocks(check, "one unit before", x, 0, 0, 0, 0, 0, 1);
        check.same("28: one unit before", x.largestFree(), 5);
        check.same("29: one unit before", x.fragmentation(), 0.0);
        x.advance(1);
        sameBlocks(check, "in the unit", x, 0, 0, 0, 0, 0, 0);
        check.missing("28: in the unit", x::largestFree);
        check.missing("29: in the unit", x::fragmentation);
        x.advance(1);
        sameBlocks(check, "one unit behind", x, 0, 0, 0, 0, 0, 1);
        check.same("28: one unit behind", x.largestFree(), 5);
        check.same("29: one unit behind", x.fragmentation(), 0.0);
    }

    /** "0 to 5", and "NoSuchElementException if no processor is free" */
    private static void largestFromNoneToFive(Check check) {
        BuddyBlockScheduler x = new BuddyBlockScheduler();
        for (int order = 5; order > 0; order--) {
            check.same("28: order " + order, x.largestFree(), order);
            x.submit(0, order - 1, 3, 3);
        }
        check.same("28: order 0", x.largestFree(), 0);
        x.submit(0, 0, 3, 3);
        check.missing("28: none", x::largestFree);
        x.advance(3);
        check.same("28: all again", x.largestFree(), 5);
    }

    /** "NoSuchElementException if no processor is free" */
    private static void fragmentationOfNone(Check check) {
        BuddyBlockScheduler x = new BuddyBlockScheduler();
        x.submit(0, 4, 3, 3);
        x.submit(0, 4, 3, 3);
        check.missing("29: none", x::fragmentation);
        x.cancel(1);
        check.same("29: a half", x.fragmentation(), 0.0);
    }

    /** "0 if one block contains all free processors" */
    private static void fragmentationOfOneBlock(Check check) {
        BuddyBlockScheduler x = new BuddyBlockScheduler();
        check.same("29: all", x.fragmentation(), 0.0);
        for (int order = 4; order >= 0; order--) {
            x.submit(0, order, 3, 3);
            check.same("29: one block of order " + order, x.fragmentation(), 0.0);
        }
    }

    /** Twelve processors are free, and no two of them are a block. */
    private static void fragmentationOfManyBlocks(Check check) {
        BuddyBlockScheduler x = new BuddyBlockScheduler();
        x.submit(0, 0, 3, 3);
        check.same("29: 16 of 31", x.fragmentation(), 1.0 - 16.0 / 31.0);
        BuddyBlockScheduler y = new BuddyBlockScheduler();
        for (int job = 0; job < 24; job++) {
            y.submit(0, 0, 3, 3);
        }
        y.reserve(3, 0, 1);
        for (int job = 1; job < 24; job += 2) {
            y.cancel(job);
        }
        check.same("27: twelve", y.freeBlocks(0), 12);
        check.same("28: single ones", y.largestFree(), 0);
        check.same("29: 1 of 12", y.fragmentation(), 1.0 - 1.0 / 12.0);
    }
}
