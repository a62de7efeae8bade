/** The edges that promises 36 (save) and 37 (restore) name, a test for each. */
final class SaveEdges {
    static void run(Check check) {
        nothingSaved(check);
        newObjectSaved(check);
        returnsTheClock(check);
        inPlaceOfWhatWasSavedBefore(check);
        staysSaved(check);
        savingAgainTheSame(check);
        wholeStateComesBack(check);
        blockComesBack(check);
        preemptedJobComesBack(check);
        endedJobsComeBack(check);
        goesOnAsFromTheSavedState(check);
        savedStateIsNotTouched(check);
        fullEventsComeBack(check);
        allJobsAndReservationsComeBack(check);
        eachOfAllJobsComesBack(check);
        startsOfTheLastBlockComeBack(check);
        placesAreFreeAgain(check);
        refusalIsNotSaved(check);
        refusalIsNotRestored(check);
        newJobsInOldPlaces(check);
        newReservationsInOldPlaces(check);
    }

    /** Jobs in all states, reservations with and without an allocation, starts, events, usage, fairness. */
    private static final Calls MUCH = x -> {
        x.submit(0, 4, 9, 4);
        x.submit(1, 5, 7, 7);
        x.submit(2, 3, 20, 20);
        x.submit(3, 2, 5, 5);
        x.reserve(3, 40, 5);
        x.reserve(0, 16, 40);
        x.reserve(4, 60, 1);
        x.cancelReservation(1);
        x.advance(2);
        x.preempt(0, 5);
        x.submit(1, 0, 3, 3);
        x.cancel(3);
        x.setFair(true);
        x.advance(3);
        x.submit(0, 5, 9, 2);
    };

    /** Changes all that can be changed. */
    private static final Calls OTHER = x -> {
        x.setFair(false);
        x.preempt(1, 4);
        x.cancelReservation(0);
        x.reserve(2, 100, 7);
        x.submit(3, 1, 4, 1);
        x.advance(4);
        x.cancel(5);
        x.submit(2, 5, 6, 6);
        x.advance(30);
        x.cancelReservation(2);
        x.submit(1, 4, 40, 30);
        x.advance(20);
        x.preempt(8, 9);
    };

    private static final Calls SAVE = BuddyBlockScheduler::save;
    private static final Calls RESTORE = BuddyBlockScheduler::restore;

    /** "IllegalStateException if nothing was saved" */
    private static void nothingSaved(Check check) {
        BuddyBlockScheduler x = new BuddyBlockScheduler();
        check.refused("37: new", x::restore);
        x.submit(0, 0, 3, 3);
        x.advance(1);
        check.refused("37: nothing was saved", x::restore);
        check.refused("37: nor by restoring", x::restore);
        check.same("11: unchanged", x.clock(), 1);
        check.same("13: unchanged", x.state(0), 1);
    }

    private static void newObjectSaved(Check check) {
        String due = Answers.after(x -> { });
        check.sameLines("37: a new object", Answers.after(SAVE.then(MUCH).then(RESTORE)), due);
    }

    /** "Returns the clock." */
    private static void returnsTheClock(Check check) {
        BuddyBlockScheduler x = new BuddyBlockScheduler();
        x.save();
        check.same("37: at once", x.restore(), 0);
        x.advance(50);
        check.same("37: clock 0", x.restore(), 0);
        AdvanceEdges.toClock(x, 1000);
        x.save();
        check.same("37: clock 1000", x.restore(), 1000);
        check.refused("3: and no tick more", () -> x.advance(1));
        BuddyBlockScheduler y = AdvanceEdges.at(3);
        y.save();
        AdvanceEdges.toClock(y, 1000);
        check.same("37: back from 1000", y.restore(), 3);
        check.same("3: ticks again", y.advance(1), 0);
        check.same("11: clock 4", y.clock(), 4);
    }

    /** "in place of what was saved before" */
    private static void inPlaceOfWhatWasSavedBefore(Check check) {
        BuddyBlockScheduler x = new BuddyBlockScheduler();
        x.submit(0, 5, 9, 9);
        x.save();
        x.advance(3);
        x.save();
        x.advance(3);
        check.same("37: the later one", x.restore(), 3);
        check.same("22: the later one", x.usage(0), 96);
        check.same("37: the earlier one is gone", x.restore(), 3);
        Calls twice = MUCH.then(SAVE).then(OTHER).then(SAVE);
        check.sameLines("37: saved twice", Answers.after(twice.then(x2 -> x2.advance(5)).then(RESTORE)),
                Answers.after(MUCH.then(OTHER)));
    }

    /** "It stays saved." */
    private static void staysSaved(Check check) {
        Calls saved = MUCH.then(SAVE);
        String due = Answers.after(MUCH);
        Calls again = saved;
        for (int i = 0; i < 3; i++) {
            again = again.then(OTHER).then(RESTORE);
            check.sameLines("37: restored again", Answers.after(again), due);
        }
        check.sameLines("37: and at once", Answers.after(saved.then(RESTORE).then(RESTORE)), due);
    }

    private static void savingAgainTheSame(Check check) {
        Calls calls = MUCH.then(SAVE).then(OTHER).then(RESTORE).then(SAVE).then(OTHER).then(RESTORE);
        check.sameLines("36: saved after restoring", Answers.after(calls), Answers.after(MUCH));
    }

    /** "Saves the whole state, with the events" */
    private static void wholeStateComesBack(Check check) {
        String due = Answers.after(MUCH);
        check.sameLines("36: saving changes nothing", Answers.after(MUCH.then(SAVE)), due);
        check.same("36: the other state", Answers.after(MUCH.then(SAVE).then(OTHER)).equals(due), false);
        check.sameLines("37: the same state", Answers.after(MUCH.then(SAVE).then(OTHER).then(RESTORE)), due);
    }

    private static void blockComesBack(Check check) {
        BuddyBlockScheduler x = new BuddyBlockScheduler();
        x.reserve(5, 3, 2);
        x.submit(0, 3, 9, 9);
        x.submit(0, 2, 9, 9);
        x.save();
        x.cancel(0);
        check.same("15: another block", x.firstProcessor(1), 0);
        x.restore();
        check.same("15: the block", x.firstProcessor(1), 8);
        check.same("25: its owner", x.ownerAt(8, 5), 1);
        check.same("25: the other block's owner", x.ownerAt(0, 5), 0);
    }

    private static void preemptedJobComesBack(Check check) {
        BuddyBlockScheduler x = new BuddyBlockScheduler();
        x.submit(0, 5, 9, 6);
        x.advance(2);
        x.preempt(0, 1);
        x.advance(1);
        x.save();
        x.preempt(0, 9);
        x.advance(2);
        x.preempt(0, 9);
        x.restore();
        check.same("18: one preemption", x.preemptions(0), 1);
        check.same("14: its last start", x.startTime(0), 2);
        check.same("24: estimate 8", x.makespan(), 10);
        check.same("32: two starts", x.blockStarts(5, 0), 2);
        check.same("34: four events", x.eventCount(), 4);
        check.same("22: three units", x.usage(0), 96);
        check.same("3: running time 5", x.advance(3), 0);
        check.same("3: finishes at 7", x.advance(1), 1);
        check.same("22: seven units", x.usage(0), 224);
    }

    private static void endedJobsComeBack(Check check) {
        BuddyBlockScheduler x = new BuddyBlockScheduler();
        x.submit(0, 4, 9, 3);
        x.submit(1, 4, 9, 9);
        x.submit(2, 5, 9, 9);
        x.advance(1);
        x.save();
        x.cancel(1);
        x.advance(2);
        x.restore();
        check.same("13: running, not finished", x.state(0), 1);
        check.same("13: running, not cancelled", x.state(1), 1);
        check.same("13: waiting, not running", x.state(2), 0);
        check.same("14: planned as before", x.startTime(2), 9);
        check.refused("17: no end", () -> x.finishTime(0));
        check.refused("19: no start", () -> x.waitTime(2));
        check.same("20: two starts", x.averageWait(), 0.0);
        x.advance(2);
        check.same("17: the same end again", x.finishTime(0), 3);
    }

    /** Estimates and running times are not asked for, but show when time goes on. */
    private static void goesOnAsFromTheSavedState(Check check) {
        Calls restored = MUCH.then(SAVE).then(OTHER).then(RESTORE);
        for (int ticks : new int[] {1, 2, 5, 10, 20, 50}) {
            Calls later = x -> x.advance(ticks);
            check.sameLines("37: " + ticks + " ticks later", Answers.after(restored.then(later)),
                    Answers.after(MUCH.then(later)));
        }
        check.sameLines("37: the other way again", Answers.after(restored.then(OTHER)), Answers.after(MUCH.then(OTHER)));
    }

    /** What is done behind the restoring does not reach what is saved. */
    private static void savedStateIsNotTouched(Check check) {
        Calls calls = MUCH.then(SAVE).then(RESTORE).then(OTHER).then(RESTORE);
        check.sameLines("37: it stays as it was saved", Answers.after(calls), Answers.after(MUCH));
    }

    private static void fullEventsComeBack(Check check) {
        Calls full = x -> {
            x.submit(0, 0, 40, 40);
            for (int i = 0; i < 35; i++) {
                x.advance(1);
                x.preempt(0, 1);
            }
        };
        Calls more = x -> {
            for (int i = 0; i < 23; i++) {
                x.submit(1, 0, 9, 9);
                x.advance(1);
            }
        };
        check.sameLines("37: 60 events", Answers.after(full.then(SAVE).then(more).then(RESTORE)), Answers.after(full));
        check.sameLines("37: 60 events and more", Answers.after(full.then(SAVE).then(more).then(RESTORE).then(more)),
                Answers.after(full.then(more)));
    }

    private static void allJobsAndReservationsComeBack(Check check) {
        Calls all = x -> {
            for (int job = 0; job < 24; job++) {
                x.submit(job % 4, job % 5, 3 + job, 2 + job);
            }
            for (int i = 0; i < 6; i++) {
                x.reserve(i, 150 + 10 * i, 3);
            }
        };
        Calls nothing = x -> {
            for (int job = 23; job >= 0; job--) {
                x.cancel(job);
            }
            for (int i = 0; i < 6; i++) {
                x.cancelReservation(i);
            }
        };
        check.sameLines("37: 24 jobs and 6 reservations", Answers.after(all.then(SAVE).then(nothing).then(RESTORE)),
                Answers.after(all));
    }

    private static void eachOfAllJobsComesBack(Check check) {
        Calls side = x -> {
            for (int job = 0; job < 24; job++) {
                x.submit(job % 4, 0, 9, 7);
            }
            x.advance(1);
        };
        Calls preempted = x -> {
            for (int job = 0; job < 24; job++) {
                x.preempt(job, 5);
            }
            x.advance(3);
            for (int job = 0; job < 24; job++) {
                x.preempt(job, 9);
            }
        };
        Calls later = x -> x.advance(6);
        Calls restored = side.then(SAVE).then(preempted).then(RESTORE);
        check.sameLines("37: 24 that run", Answers.after(restored), Answers.after(side));
        check.sameLines("37: 24 that finish", Answers.after(restored.then(later)), Answers.after(side.then(later)));
        check.sameLines("37: 24 that are preempted", Answers.after(restored.then(preempted)),
                Answers.after(side.then(preempted)));
        Calls queue = x -> {
            for (int job = 0; job < 24; job++) {
                x.submit(job % 4, 5, 2, 2);
            }
        };
        Calls ended = x -> x.advance(48);
        check.sameLines("37: 24 that wait", Answers.after(queue.then(SAVE).then(ended).then(RESTORE)), Answers.after(queue));
        Calls all = queue.then(ended);
        check.sameLines("37: 24 that are over", Answers.after(all.then(SAVE).then(later).then(RESTORE)), Answers.after(all));
    }

    private static void startsOfTheLastBlockComeBack(Check check) {
        BuddyBlockScheduler x = new BuddyBlockScheduler();
        for (int order = 4; order >= 0; order--) {
            x.submit(0, order, 9, 9);
        }
        x.submit(0, 0, 9, 9);
        x.save();
        x.preempt(5, 0);
        check.same("32: two starts", x.blockStarts(0, 31), 2);
        x.restore();
        check.same("32: one start", x.blockStarts(0, 31), 1);
    }

    private static void placesAreFreeAgain(Check check) {
        BuddyBlockScheduler x = new BuddyBlockScheduler();
        for (int job = 0; job < 23; job++) {
            x.submit(0, 0, 9, 9);
        }
        for (int i = 0; i < 5; i++) {
            x.reserve(0, 50, 1);
        }
        x.save();
        x.submit(0, 0, 9, 9);
        x.reserve(0, 50, 1);
        check.refused("2: 24 jobs", () -> x.submit(0, 0, 9, 9));
        check.refused("6: 6 reservations", () -> x.reserve(0, 50, 1));
        x.restore();
        check.same("12: 23 jobs", x.jobCount(), 23);
        check.outside("13: no job 23", () -> x.state(23));
        check.outside("9: no reservation 5", () -> x.reservedProcessor(5));
        check.same("2: the 24th job again", x.submit(0, 1, 9, 9), 0);
        check.same("6: the sixth reservation again", x.reserve(1, 50, 1), 5);
        check.refused("2: 24 jobs again", () -> x.submit(0, 0, 9, 9));
        check.refused("6: 6 reservations again", () -> x.reserve(0, 50, 1));
        check.same("7: six", x.refusal(), 2);
    }

    /** "but without what refusal returns" */
    private static void refusalIsNotSaved(Check check) {
        BuddyBlockScheduler x = new BuddyBlockScheduler();
        x.reserve(5, 3, 2);
        check.refused("6: no block", () -> x.reserve(0, 3, 1));
        x.save();
        check.same("7: saving leaves it", x.refusal(), 3);
        x.reserve(0, 9, 1);
        x.restore();
        check.same("7: 3 does not come back", x.refusal(), 0);
    }

    private static void refusalIsNotRestored(Check check) {
        BuddyBlockScheduler x = new BuddyBlockScheduler();
        x.reserve(5, 3, 2);
        x.save();
        check.refused("6: no block", () -> x.reserve(0, 3, 1));
        x.restore();
        check.same("7: 0 does not come back", x.refusal(), 3);
        x.advance(1);
        check.refused("6: before the clock", () -> x.reserve(0, 0, 1));
        x.restore();
        check.same("7: before a clock that is back", x.refusal(), 1);
    }

    /** A job that takes the number of one that was there before the restoring has nothing of it. */
    private static void newJobsInOldPlaces(Check check) {
        Calls before = x -> {
            x.submit(0, 5, 9, 9);
            x.advance(2);
            x.preempt(0, 1);
            x.advance(3);
            x.cancel(0);
            x.submit(0, 5, 1, 1);
            x.advance(1);
        };
        Calls after = x -> {
            x.reserve(5, 0, 2);
            x.submit(1, 0, 3, 3);
            x.submit(2, 0, 3, 3);
        };
        check.sameLines("37: new jobs", Answers.after(SAVE.then(before).then(RESTORE).then(after)), Answers.after(after));
        Calls later = after.then(x -> x.advance(3));
        check.sameLines("37: new jobs, later", Answers.after(SAVE.then(before).then(RESTORE).then(later)),
                Answers.after(later));
    }

    private static void newReservationsInOldPlaces(Check check) {
        BuddyBlockScheduler x = new BuddyBlockScheduler();
        x.save();
        x.reserve(5, 3, 9);
        x.cancelReservation(0);
        x.reserve(4, 3, 9);
        x.restore();
        check.outside("9: no reservation", () -> x.reservedProcessor(0));
        check.same("26: all is free", x.freeProcessors(3), 32);
        check.same("6: the first number", x.reserve(0, 5, 1), 0);
        check.same("9: not cancelled", x.reservedProcessor(0), 0);
        check.same("26: one processor", x.freeProcessors(5), 31);
        check.same("26: its interval alone", x.freeProcessors(6), 32);
    }
}
