/** The edges that promises 30 to 33 name: what is asked of blocks. */
final class BlockEdges {
    static void run(Check check) {
        orderRangeOfEarliestStart(check);
        lengthRangeOfEarliestStart(check);
        earliestIsNotBeforeTheClock(check);
        earliestInAGapJustLongEnough(check);
        earliestBehindThousand(check);
        earliestBehindThirtyAllocations(check);
        orderRangeOfLowestBlock(check);
        fromRangeOfLowestBlock(check);
        lengthRangeOfLowestBlock(check);
        rangeIsCheckedBeforeTheBlocks(check);
        noBlockInTheInterval(check);
        lowestBeforeTheClock(check);
        lowestOfEachOrder(check);
        whichBlocksThereAre(check);
        blockFarOutside(check);
        noStartsAtFirst(check);
        eachStartCounts(check);
        startsOfJobsThatAreOver(check);
        startsOfTheFirstAndTheLastBlock(check);
        startsOfReservationsDoNotCount(check);
        busiestOfNone(check);
        busiestByTheLowestOrder(check);
        busiestByTheLowestProcessor(check);
        busiestByOneStartMore(check);
        busiestOfTheLastBlocks(check);
    }

    /** "the order of the block, 0 to 5" */
    private static void orderRangeOfEarliestStart(Check check) {
        BuddyBlockScheduler x = new BuddyBlockScheduler();
        for (int order : new int[] {-1, 6, 32, Integer.MIN_VALUE, Integer.MAX_VALUE}) {
            check.bad("30: order " + order, () -> x.earliestStart(order, 1));
        }
        check.same("30: order 0", x.earliestStart(0, 1), 0);
        check.same("30: order 5", x.earliestStart(5, 1), 0);
    }

    /** "the number of units, 1 to 40" */
    private static void lengthRangeOfEarliestStart(Check check) {
        BuddyBlockScheduler x = new BuddyBlockScheduler();
        for (int length : new int[] {0, -1, 41, Integer.MIN_VALUE, Integer.MAX_VALUE}) {
            check.bad("30: length " + length, () -> x.earliestStart(0, length));
        }
        check.bad("30: both", () -> x.earliestStart(6, 0));
        x.reserve(5, 40, 1);
        check.same("30: length 1", x.earliestStart(5, 1), 0);
        check.same("30: length 40", x.earliestStart(5, 40), 0);
        x.advance(1);
        check.same("30: length 39", x.earliestStart(5, 39), 1);
        check.same("30: length 40 no more", x.earliestStart(5, 40), 41);
    }

    /** "the earliest unit that is not before the clock" */
    private static void earliestIsNotBeforeTheClock(Check check) {
        BuddyBlockScheduler x = new BuddyBlockScheduler();
        check.same("30: at 0", x.earliestStart(3, 7), 0);
        x.advance(9);
        check.same("30: at 9", x.earliestStart(3, 7), 9);
        check.same("12: no job is made", x.jobCount(), 0);
    }

    private static void earliestInAGapJustLongEnough(Check check) {
        BuddyBlockScheduler x = new BuddyBlockScheduler();
        x.reserve(4, 4, 2);
        x.reserve(4, 5, 10);
        check.same("30: all, up to the first", x.earliestStart(5, 4), 0);
        check.same("30: all, one unit more", x.earliestStart(5, 5), 15);
        check.same("30: the upper half, up to the second", x.earliestStart(4, 5), 0);
        check.same("30: the lower half behind the first", x.earliestStart(4, 6), 6);
    }

    /** "planned times can be later than unit 1000" */
    private static void earliestBehindThousand(Check check) {
        BuddyBlockScheduler x = AdvanceEdges.atThousand();
        check.same("30: at 1000", x.earliestStart(5, 40), 1000);
        x.reserve(5, 1000, 40);
        check.same("30: behind it", x.earliestStart(0, 1), 1040);
        x.submit(0, 5, 40, 40);
        check.same("30: behind a job, too", x.earliestStart(0, 1), 1080);
    }

    private static void earliestBehindThirtyAllocations(Check check) {
        BuddyBlockScheduler x = new BuddyBlockScheduler();
        for (int i = 0; i < 24; i++) {
            check.same("2: one behind the other", x.submit(0, 5, 1, 1), i);
        }
        for (int i = 0; i < 6; i++) {
            check.same("30: behind all", x.earliestStart(0, 40), 24 + i);
            check.same("6: one more", x.reserve(5, 24 + i, 1), i);
        }
        check.same("30: behind thirty allocations", x.earliestStart(0, 40), 30);
        check.same("30: the shortest, too", x.earliestStart(0, 1), 30);
    }

    /** "the order of the block, 0 to 5" */
    private static void orderRangeOfLowestBlock(Check check) {
        BuddyBlockScheduler x = new BuddyBlockScheduler();
        for (int order : new int[] {-1, 6, 32, Integer.MIN_VALUE, Integer.MAX_VALUE}) {
            check.bad("31: order " + order, () -> x.lowestBlock(order, 0, 1));
        }
        check.same("31: order 0", x.lowestBlock(0, 0, 1), 0);
        check.same("31: order 5", x.lowestBlock(5, 0, 1), 0);
    }

    /** "the first unit, 0 to 1000" */
    private static void fromRangeOfLowestBlock(Check check) {
        BuddyBlockScheduler x = new BuddyBlockScheduler();
        for (int from : new int[] {-1, 1001, Integer.MIN_VALUE, Integer.MAX_VALUE}) {
            check.bad("31: from " + from, () -> x.lowestBlock(0, from, 1));
        }
        x.reserve(0, 0, 1);
        x.reserve(0, 1000, 1);
        check.same("31: from 0", x.lowestBlock(0, 0, 1), 1);
        check.same("31: from 1", x.lowestBlock(0, 1, 1), 0);
        check.same("31: from 999", x.lowestBlock(0, 999, 1), 0);
        check.same("31: from 1000", x.lowestBlock(0, 1000, 1), 1);
    }

    /** "the number of units, 1 to 40" */
    private static void lengthRangeOfLowestBlock(Check check) {
        BuddyBlockScheduler x = new BuddyBlockScheduler();
        for (int length : new int[] {0, -1, 41, Integer.MIN_VALUE, Integer.MAX_VALUE}) {
            check.bad("31: length " + length, () -> x.lowestBlock(0, 0, length));
        }
        x.reserve(0, 40, 1);
        check.same("31: length 40, up to it", x.lowestBlock(0, 0, 40), 0);
        check.same("31: length 40, one unit later", x.lowestBlock(0, 1, 40), 1);
        check.same("31: length 1, before it", x.lowestBlock(0, 39, 1), 0);
        check.same("31: length 2, its first unit", x.lowestBlock(0, 39, 2), 1);
        check.same("31: length 1, behind it", x.lowestBlock(0, 41, 1), 0);
        check.same("31: the greatest numbers", x.lowestBlock(5, 1000, 40), 0);
    }

    private static void rangeIsCheckedBeforeTheBlocks(Check check) {
        BuddyBlockScheduler x = new BuddyBlockScheduler();
        x.submit(0, 5, 40, 40);
        check.missing("31: nothing is free", () -> x.lowestBlock(0, 0, 40));
        check.bad("31: order 6", () -> x.lowestBlock(6, 0, 40));
        check.bad("31: order -1", () -> x.lowestBlock(-1, 0, 40));
        check.bad("31: from -1", () -> x.lowestBlock(0, -1, 40));
        check.bad("31: length 41", () -> x.lowestBlock(0, 0, 41));
        check.bad("31: length 0", () -> x.lowestBlock(0, 0, 0));
    }

    /** "NoSuchElementException if no block of this order is free in the interval" */
    private static void noBlockInTheInterval(Check check) {
        BuddyBlockScheduler x = new BuddyBlockScheduler();
        x.reserve(5, 10, 1);
        check.missing("31: that unit", () -> x.lowestBlock(0, 10, 1));
        check.missing("31: up to that unit", () -> x.lowestBlock(0, 9, 2));
        check.missing("31: from that unit on", () -> x.lowestBlock(0, 10, 2));
        check.missing("31: round that unit", () -> x.lowestBlock(0, 0, 40));
        check.same("31: before that unit", x.lowestBlock(5, 0, 10), 0);
        check.same("31: behind that unit", x.lowestBlock(5, 11, 40), 0);
        check.same("7: it is no reservation", x.refusal(), 0);
        x.submit(0, 0, 5, 5);
        check.missing("31: one processor is taken", () -> x.lowestBlock(5, 0, 1));
        check.same("31: the upper half", x.lowestBlock(4, 0, 1), 16);
    }

    private static void lowestBeforeTheClock(Check check) {
        BuddyBlockScheduler x = new BuddyBlockScheduler();
        x.submit(0, 1, 5, 5);
        x.advance(3);
        check.same("31: a unit of the past", x.lowestBlock(1, 0, 1), 2);
        check.same("31: the current unit", x.lowestBlock(1, 3, 1), 2);
        check.same("31: behind the job", x.lowestBlock(1, 5, 1), 0);
        x.advance(2);
        check.same("31: the past of a finished job", x.lowestBlock(1, 0, 5), 0);
    }

    private static void lowestOfEachOrder(Check check) {
        BuddyBlockScheduler x = new BuddyBlockScheduler();
        x.submit(0, 0, 1, 1);
        for (int order = 0; order < 5; order++) {
            check.same("31: the second block of order " + order, x.lowestBlock(order, 0, 1), 1 << order);
        }
        check.missing("31: order 5", () -> x.lowestBlock(5, 0, 1));
        BuddyBlockScheduler y = new BuddyBlockScheduler();
        for (int order = 4; order >= 0; order--) {
            y.submit(0, order, 1, 1);
            check.same("31: the last block of order " + order, y.lowestBlock(order, 0, 1), 32 - (1 << order));
            int larger = order + 1;
            check.missing("31: none of order " + larger, () -> y.lowestBlock(larger, 0, 1));
        }
    }

    /** "of which the first one is a multiple of this number": 63 blocks, and nothing else is one. */
    private static void whichBlocksThereAre(Check check) {
        BuddyBlockScheduler x = new BuddyBlockScheduler();
        int blocks = 0;
        for (int order = -1; order <= 6; order++) {
            for (int first = -2; first <= 33; first++) {
                boolean block = order >= 0 && order <= 5 && first >= 0 && first <= 31 && first % (1 << order) == 0;
                int k = order;
                int p = first;
                Object due = block ? 0 : "throws java.lang.IllegalArgumentException";
                check.same("32: blockStarts(" + k + ", " + p + ")", Check.outcome(() -> x.blockStarts(k, p)), due);
                blocks += block ? 1 : 0;
            }
        }
        check.same("32: number of blocks", blocks, 63);
    }

    private static void blockFarOutside(Check check) {
        BuddyBlockScheduler x = new BuddyBlockScheduler();
        for (int far : new int[] {Integer.MIN_VALUE, Integer.MAX_VALUE, -32, 64, 1 << 16}) {
            check.bad("32: order " + far, () -> x.blockStarts(far, 0));
            check.bad("32: processor " + far, () -> x.blockStarts(0, far));
            check.bad("32: processor " + far + " of order 5", () -> x.blockStarts(5, far));
        }
        check.bad("32: order 32", () -> x.blockStarts(32, 0));
    }

    private static void noStartsAtFirst(Check check) {
        BuddyBlockScheduler x = new BuddyBlockScheduler();
        x.submit(0, 4, 9, 9);
        x.submit(0, 5, 9, 9);
        check.same("32: one start", x.blockStarts(4, 0), 1);
        check.same("32: a planned start is none", x.blockStarts(5, 0), 0);
        check.same("32: the buddy", x.blockStarts(4, 16), 0);
        check.same("32: a part of it", x.blockStarts(3, 0), 0);
        x.advance(9);
        check.same("32: started now", x.blockStarts(5, 0), 1);
    }

    /** "each start of a job counts" */
    private static void eachStartCounts(Check check) {
        BuddyBlockScheduler x = new BuddyBlockScheduler();
        x.submit(0, 2, 9, 9);
        x.preempt(0, 0);
        check.same("32: two starts", x.blockStarts(2, 0), 2);
        x.advance(1);
        x.preempt(0, 9);
        check.same("32: three starts", x.blockStarts(2, 0), 3);
    }

    /** "Starts of jobs count whatever becomes of these jobs later" */
    private static void startsOfJobsThatAreOver(Check check) {
        BuddyBlockScheduler x = new BuddyBlockScheduler();
        x.submit(0, 2, 9, 1);
        x.submit(0, 2, 9, 9);
        x.submit(0, 2, 9, 9);
        x.cancel(1);
        x.advance(1);
        x.preempt(2, 0);
        check.same("32: finished, and another one", x.blockStarts(2, 0), 2);
        check.same("32: cancelled", x.blockStarts(2, 4), 1);
        check.same("32: preempted", x.blockStarts(2, 8), 1);
        x.submit(0, 5, 9, 9);
        x.cancel(3);
        check.same("32: cancelled before its start", x.blockStarts(5, 0), 0);
    }

    private static void startsOfTheFirstAndTheLastBlock(Check check) {
        for (int order = 0; order < 6; order++) {
            BuddyBlockScheduler x = new BuddyBlockScheduler();
            for (int larger = 4; larger >= order; larger--) {
                x.submit(0, larger, 1, 1);
            }
            x.submit(0, order, 1, 1);
            check.same("32: the last of order " + order, x.blockStarts(order, 32 - (1 << order)), 1);
            x.advance(1);
            x.submit(0, order, 1, 1);
            check.same("32: the first of order " + order, x.blockStarts(order, 0), order >= 4 ? 2 : 1);
        }
    }

    private static void startsOfReservationsDoNotCount(Check check) {
        BuddyBlockScheduler x = new BuddyBlockScheduler();
        x.reserve(3, 0, 5);
        x.advance(2);
        check.same("32: a reservation is no job", x.blockStarts(3, 0), 0);
        check.missing("33: nor does it start", x::busiestBlock);
    }

    /** "NoSuchElementException if no job was started" */
    private static void busiestOfNone(Check check) {
        BuddyBlockScheduler x = new BuddyBlockScheduler();
        check.missing("33: no job", x::busiestBlock);
        x.reserve(5, 0, 2);
        x.submit(0, 5, 1, 1);
        x.submit(0, 4, 1, 1);
        check.missing("33: jobs that wait", x::busiestBlock);
        x.cancel(0);
        check.missing("33: cancelled before its start", x::busiestBlock);
        x.advance(2);
        check.same("33: the first start", x.busiestBlock(), 400);
        x.cancel(1);
        check.same("33: it counts when it is cancelled", x.busiestBlock(), 400);
    }

    /** "of several blocks the one with the lowest order" */
    private static void busiestByTheLowestOrder(Check check) {
        BuddyBlockScheduler x = new BuddyBlockScheduler();
        for (int order = 5; order >= 0; order--) {
            x.submit(0, order, 1, 1);
            x.advance(1);
            check.same("33: one start each, down to order " + order, x.busiestBlock(), 100 * order);
        }
        x.submit(0, 5, 1, 1);
        check.same("33: two starts", x.busiestBlock(), 500);
    }

    /** "and of these the one with the lowest first processor" */
    private static void busiestByTheLowestProcessor(Check check) {
        BuddyBlockScheduler x = new BuddyBlockScheduler();
        x.submit(0, 3, 9, 9);
        x.submit(0, 3, 9, 9);
        x.submit(0, 3, 9, 9);
        check.same("33: the first of three", x.busiestBlock(), 300);
        x.preempt(2, 0);
        check.same("33: two starts", x.busiestBlock(), 316);
        x.preempt(1, 0);
        check.same("33: the lower one of two starts", x.busiestBlock(), 308);
        x.preempt(0, 0);
        check.same("33: the first of two starts", x.busiestBlock(), 300);
    }

    private static void busiestByOneStartMore(Check check) {
        BuddyBlockScheduler x = new BuddyBlockScheduler();
        x.submit(0, 0, 9, 9);
        check.same("33: the very first block", x.busiestBlock(), 0);
        x.submit(0, 4, 9, 9);
        check.same("33: the lower order", x.busiestBlock(), 0);
        x.preempt(1, 0);
        check.same("33: one start more", x.busiestBlock(), 416);
        x.preempt(0, 0);
        check.same("33: the lower order again", x.busiestBlock(), 0);
    }

    private static void busiestOfTheLastBlocks(Check check) {
        for (int order = 0; order < 6; order++) {
            BuddyBlockScheduler x = new BuddyBlockScheduler();
            for (int larger = 4; larger >= order; larger--) {
                x.submit(0, larger, 9, 9);
            }
            int job = x.jobCount();
            x.submit(0, order, 9, 9);
            x.preempt(job, 0);
            check.same("33: the last of order " + order, x.busiestBlock(), 100 * order + 32 - (1 << order));
        }
    }
}
