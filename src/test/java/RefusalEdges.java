/** The edges that promises 7 (refusal), 8 (cancelReservation) and 9 (reservedProcessor) name. */
final class RefusalEdges {
    static void run(Check check) {
        noSuchCall(check);
        notRefused(check);
        onlyOutOfRange(check);
        staysWhenOutOfRange(check);
        eachReasonAlone(check);
        firstReasonOfTwo(check);
        firstReasonOfThree(check);
        latestCallCounts(check);
        otherCallsLeaveIt(check);
        cancelReservationRange(check);
        cancelledAlready(check);
        cancelWhenItsIntervalIsOver(check);
        cancelInItsInterval(check);
        cancelReplansAndStarts(check);
        cancelWithoutJobs(check);
        reservedProcessorRange(check);
        reservedProcessorOfACancelledOne(check);
        reservedProcessorWhenItsIntervalIsOver(check);
        lastBlockOfEachOrder(check);
    }

    /** "0 if it was not refused or there was no such call" */
    private static void noSuchCall(Check check) {
        BuddyBlockScheduler x = new BuddyBlockScheduler();
        check.same("7: no call", x.refusal(), 0);
    }

    private static void notRefused(Check check) {
        BuddyBlockScheduler x = new BuddyBlockScheduler();
        x.reserve(0, 0, 1);
        check.same("7: not refused", x.refusal(), 0);
    }

    private static void onlyOutOfRange(Check check) {
        BuddyBlockScheduler x = AdvanceEdges.at(5);
        check.bad("6: out of range", () -> x.reserve(6, 4, 1));
        check.same("7: no call with valid arguments", x.refusal(), 0);
    }

    /** "The refusal stays when reserve throws because an argument is out of range." */
    private static void staysWhenOutOfRange(Check check) {
        BuddyBlockScheduler x = AdvanceEdges.at(5);
        x.reserve(5, 6, 1);
        int[][] refused = {{4, 1}, {6, 3}};
        for (int[] r : refused) {
            check.refused("6: refused", () -> x.reserve(0, r[0], 1));
            check.bad("6: order -1", () -> x.reserve(-1, 5, 1));
            check.same("7: stays after order -1", x.refusal(), r[1]);
            check.bad("6: order 6", () -> x.reserve(6, 5, 1));
            check.same("7: stays after order 6", x.refusal(), r[1]);
            check.bad("6: from -1", () -> x.reserve(0, -1, 1));
            check.same("7: stays after from -1", x.refusal(), r[1]);
            check.bad("6: from 1001", () -> x.reserve(0, 1001, 1));
            check.same("7: stays after from 1001", x.refusal(), r[1]);
            check.bad("6: length 0", () -> x.reserve(0, 5, 0));
            check.same("7: stays after length 0", x.refusal(), r[1]);
            check.bad("6: length 41", () -> x.reserve(0, 5, 41));
            check.same("7: stays after length 41", x.refusal(), r[1]);
        }
    }

    private static void eachReasonAlone(Check check) {
        BuddyBlockScheduler past = AdvanceEdges.at(1);
        check.refused("6: before the clock", () -> past.reserve(0, 0, 1));
        check.same("7: 1", past.refusal(), 1);
        BuddyBlockScheduler full = new BuddyBlockScheduler();
        for (int i = 0; i < 6; i++) {
            full.reserve(0, 0, 1);
        }
        check.refused("6: six reservations", () -> full.reserve(0, 0, 1));
        check.same("7: 2", full.refusal(), 2);
        BuddyBlockScheduler taken = new BuddyBlockScheduler();
        taken.submit(0, 5, 1, 1);
        check.refused("6: no block", () -> taken.reserve(0, 0, 1));
        check.same("7: 3", taken.refusal(), 3);
    }

    /** "the reasons are checked in the order of their numbers" */
    private static void firstReasonOfTwo(Check check) {
        BuddyBlockScheduler x = AdvanceEdges.at(5);
        x.reserve(5, 5, 1);
        check.refused("6: before the clock, no block", () -> x.reserve(0, 4, 2));
        check.same("7: 1 of 1 and 3", x.refusal(), 1);
        for (int i = 1; i < 6; i++) {
            x.reserve(0, 30, 1);
        }
        check.refused("6: six reservations, no block", () -> x.reserve(0, 5, 1));
        check.same("7: 2 of 2 and 3", x.refusal(), 2);
        check.refused("6: before the clock, six reservations", () -> x.reserve(0, 4, 1));
        check.same("7: 1 of 1 and 2", x.refusal(), 1);
    }

    private static void firstReasonOfThree(Check check) {
        BuddyBlockScheduler x = AdvanceEdges.at(5);
        for (int i = 0; i < 6; i++) {
            x.reserve(5, 5 + i, 1);
        }
        check.refused("6: all three", () -> x.reserve(0, 4, 2));
        check.same("7: 1 of 1, 2 and 3", x.refusal(), 1);
    }

    /** "why the latest call of reserve with valid arguments was refused" */
    private static void latestCallCounts(Check check) {
        BuddyBlockScheduler x = AdvanceEdges.at(5);
        x.reserve(5, 6, 1);
        check.refused("6: no block", () -> x.reserve(0, 6, 1));
        check.same("7: 3", x.refusal(), 3);
        check.refused("6: before the clock", () -> x.reserve(0, 4, 1));
        check.same("7: 1", x.refusal(), 1);
        check.refused("6: no block", () -> x.reserve(0, 5, 2));
        check.same("7: 3 again", x.refusal(), 3);
        x.reserve(0, 5, 1);
        check.same("7: 0", x.refusal(), 0);
    }

    private static void otherCallsLeaveIt(Check check) {
        BuddyBlockScheduler x = AdvanceEdges.at(5);
        x.reserve(5, 6, 1);
        check.refused("6: no block", () -> x.reserve(0, 6, 1));
        x.submit(0, 0, 9, 9);
        check.same("7: after submit", x.refusal(), 3);
        x.advance(3);
        check.same("7: after advance", x.refusal(), 3);
        x.preempt(0, 0);
        check.same("7: after preempt", x.refusal(), 3);
        x.cancel(0);
        check.same("7: after cancel", x.refusal(), 3);
        x.lowestBlock(0, 0, 1);
        check.missing("31: no block", () -> x.lowestBlock(0, 6, 1));
        check.same("7: after lowestBlock", x.refusal(), 3);
        x.cancelReservation(0);
        check.same("7: after cancelReservation", x.refusal(), 3);
        x.save();
        x.setFair(true);
        x.restore();
        check.same("7: after save and restore", x.refusal(), 3);
        check.same("7: after refusal", x.refusal(), 3);
    }

    /** "IndexOutOfBoundsException if there is no such reservation" */
    private static void cancelReservationRange(Check check) {
        BuddyBlockScheduler x = new BuddyBlockScheduler();
        check.outside("8: none yet", () -> x.cancelReservation(0));
        x.reserve(0, 0, 1);
        x.reserve(0, 0, 1);
        x.reserve(0, 0, 1);
        for (int number : new int[] {-1, 3, 5, 6, 100, 102, Integer.MIN_VALUE, Integer.MAX_VALUE}) {
            check.outside("8: cancelReservation(" + number + ") of 3", () -> x.cancelReservation(number));
        }
        check.same("26: nothing was cancelled", x.freeProcessors(0), 29);
        x.cancelReservation(0);
        check.same("26: the first one", x.freeProcessors(0), 30);
        x.cancelReservation(2);
        check.same("26: the last one", x.freeProcessors(0), 31);
        check.same("25: the one between them", x.ownerAt(1, 0), 101);
    }

    /** "IllegalStateException if it is cancelled already" */
    private static void cancelledAlready(Check check) {
        BuddyBlockScheduler x = new BuddyBlockScheduler();
        x.reserve(0, 0, 1);
        x.cancelReservation(0);
        check.refused("8: cancelled already", () -> x.cancelReservation(0));
        check.outside("8: no such reservation", () -> x.cancelReservation(1));
    }

    /** "A reservation has an allocation until it is cancelled, also when its interval is over." */
    private static void cancelWhenItsIntervalIsOver(Check check) {
        BuddyBlockScheduler x = new BuddyBlockScheduler();
        x.reserve(3, 1, 2);
        x.advance(9);
        check.same("25: its first unit", x.ownerAt(7, 1), 100);
        check.same("25: its last unit", x.ownerAt(7, 2), 100);
        check.same("26: units of the past", x.freeProcessors(2), 24);
        check.same("31: units of the past", x.lowestBlock(3, 0, 40), 8);
        x.cancelReservation(0);
        check.same("25: cancelled", x.ownerAt(7, 2), -1);
        check.same("31: cancelled", x.lowestBlock(3, 0, 40), 0);
        check.refused("8: cancelled already", () -> x.cancelReservation(0));
    }

    private static void cancelInItsInterval(Check check) {
        BuddyBlockScheduler x = new BuddyBlockScheduler();
        x.reserve(5, 0, 9);
        x.submit(0, 5, 3, 3);
        x.advance(8);
        check.same("13: it waits", x.state(0), 0);
        x.cancelReservation(0);
        check.same("13: it runs", x.state(0), 1);
        check.same("14: from its last unit on", x.startTime(0), 8);
    }

    /** "Then the waiting jobs are replanned and jobs are started." */
    private static void cancelReplansAndStarts(Check check) {
        BuddyBlockScheduler x = new BuddyBlockScheduler();
        x.reserve(5, 0, 9);
        x.reserve(5, 11, 2);
        x.submit(0, 4, 5, 5);
        x.submit(0, 4, 2, 2);
        check.same("14: behind both", x.startTime(0), 13);
        check.same("14: between them", x.startTime(1), 9);
        x.cancelReservation(1);
        check.same("14: replanned", x.startTime(0), 9);
        check.same("13: but not started", x.state(0), 0);
        x.cancelReservation(0);
        check.same("13: started", x.state(0), 1);
        check.same("13: both of them", x.state(1), 1);
        EventEdges.sameTail(check, "8: events", x,
                new int[][] {{0, 0, 1}, {0, 5, 0}, {0, 5, 0}, {0, 5, 1}, {0, 1, 0}, {0, 1, 1}});
    }

    private static void cancelWithoutJobs(Check check) {
        BuddyBlockScheduler x = new BuddyBlockScheduler();
        x.reserve(5, 0, 9);
        x.cancelReservation(0);
        check.same("34: no event", x.eventCount(), 0);
        check.same("26: all is free", x.freeProcessors(0), 32);
    }

    /** "IndexOutOfBoundsException if there is no such reservation" */
    private static void reservedProcessorRange(Check check) {
        BuddyBlockScheduler x = new BuddyBlockScheduler();
        check.outside("9: none yet", () -> x.reservedProcessor(0));
        x.reserve(0, 0, 1);
        x.reserve(0, 0, 1);
        for (int number : new int[] {-1, 2, 5, 6, 100, 101, Integer.MIN_VALUE, Integer.MAX_VALUE}) {
            check.outside("9: reservedProcessor(" + number + ") of 2", () -> x.reservedProcessor(number));
        }
        check.same("9: the first one", x.reservedProcessor(0), 0);
        check.same("9: the last one", x.reservedProcessor(1), 1);
    }

    /** "IllegalStateException if it is cancelled" */
    private static void reservedProcessorOfACancelledOne(Check check) {
        BuddyBlockScheduler x = new BuddyBlockScheduler();
        x.reserve(0, 0, 1);
        x.reserve(0, 0, 1);
        x.cancelReservation(0);
        check.refused("9: cancelled", () -> x.reservedProcessor(0));
        check.same("9: the other one", x.reservedProcessor(1), 1);
        check.outside("9: no such reservation", () -> x.reservedProcessor(2));
    }

    private static void reservedProcessorWhenItsIntervalIsOver(Check check) {
        BuddyBlockScheduler x = new BuddyBlockScheduler();
        x.submit(0, 4, 2, 2);
        x.reserve(4, 0, 1);
        x.advance(50);
        check.same("9: long over", x.reservedProcessor(0), 16);
    }

    private static void lastBlockOfEachOrder(Check check) {
        for (int order = 0; order < 6; order++) {
            BuddyBlockScheduler x = new BuddyBlockScheduler();
            for (int larger = 4; larger >= order; larger--) {
                x.submit(0, larger, 1, 1);
            }
            x.reserve(order, 0, 1);
            check.same("9: the last block of order " + order, x.reservedProcessor(0), 32 - (1 << order));
            check.same("26: all is taken", x.freeProcessors(0), 0);
        }
    }
}
