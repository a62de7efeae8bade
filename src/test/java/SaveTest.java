/** Promises 36 (save) and 37 (restore). */
final class SaveTest {
    static void run(Check check) {
        nothingSaved(check);
        everythingComesBack(check);
        savedTwice(check);
        changedJobsComeBack(check);
        blocksComeBack(check);
        eventsComeBack(check);
        refusalIsNotSaved(check);
        newJobsAfterRestoreAreNew(check);
    }

    private static void nothingSaved(Check check) {
        BuddyBlockScheduler x = new BuddyBlockScheduler();
        x.submit(0, 0, 3, 3);
        x.advance(1);
        check.refused("37: nothing was saved", x::restore);
        check.same("37: unchanged", x.clock(), 1);
    }

    private static void everythingComesBack(Check check) {
        BuddyBlockScheduler x = new BuddyBlockScheduler();
        x.submit(0, 5, 9, 9);
        x.submit(1, 4, 9, 9);
        x.reserve(3, 20, 5);
        x.setFair(true);
        x.advance(4);
        x.preempt(0, 3);
        x.save();
        String before = Answers.all(x);
        x.setFair(false);
        x.submit(2, 0, 4, 4);
        x.advance(5);
        x.cancel(1);
        x.reserve(0, 30, 1);
        x.cancelReservation(0);
        x.advance(30);
        check.same("37: other state", Answers.all(x).equals(before), false);
        check.same("37: the clock", x.restore(), 4);
        check.same("37: the same state", Answers.all(x), before);
        check.same("37: fairness", x.setFair(true), true);
        x.advance(2);
        check.same("37: it stays saved", x.restore(), 4);
        check.same("37: the same state again", Answers.all(x), before);
        check.same("37: the next job's number", x.submit(3, 0, 1, 1) >= 4 ? x.jobCount() : -1, 3);
    }

    private static void savedTwice(Check check) {
        BuddyBlockScheduler x = new BuddyBlockScheduler();
        x.save();
        x.advance(3);
        x.save();
        x.advance(3);
        check.same("36: the later one", x.restore(), 3);
        check.same("36: the later one stays", x.restore(), 3);
    }

    /** Saves in the midst of all, changes each job, and goes on twice from the saved state. */
    private static void changedJobsComeBack(Check check) {
        BuddyBlockScheduler x = new BuddyBlockScheduler();
        x.submit(0, 4, 9, 6);
        x.submit(1, 5, 7, 7);
        x.submit(2, 4, 20, 20);
        x.advance(2);
        x.preempt(0, 5);
        x.save();
        String first = goOn(x);
        x.restore();
        check.same("37: goes on in the same way", goOn(x), first);
        x.restore();
        x.cancel(1);
        x.advance(20);
        x.restore();
        check.same("37: and again", goOn(x), first);
    }

    private static String goOn(BuddyBlockScheduler x) {
        StringBuilder text = new StringBuilder(Answers.all(x));
        x.preempt(1, 9);
        text.append(Answers.all(x));
        x.advance(7);
        text.append(Answers.all(x));
        x.submit(3, 2, 9, 9);
        x.advance(40);
        return text.append(Answers.all(x)).toString();
    }

    private static void blocksComeBack(Check check) {
        BuddyBlockScheduler x = new BuddyBlockScheduler();
        x.reserve(5, 3, 2);
        x.submit(0, 3, 9, 9);
        x.submit(0, 2, 9, 9);
        x.save();
        x.cancel(0);
        check.same("37: another block", x.firstProcessor(1), 0);
        x.restore();
        check.same("37: the block", x.firstProcessor(1), 8);
        check.same("37: its owner", x.ownerAt(8, 5), 1);
    }

    private static void eventsComeBack(Check check) {
        BuddyBlockScheduler x = new BuddyBlockScheduler();
        x.submit(0, 0, 40, 40);
        for (int i = 0; i < 35; i++) {
            x.preempt(0, 1);
        }
        x.submit(1, 0, 40, 40);
        x.save();
        String before = Answers.all(x);
        for (int i = 0; i < 35; i++) {
            x.advance(1);
            x.submit(2, 0, 40, i % 2 + 1);
            x.cancel(2 + i);
            if (x.jobCount() == 20) {
                break;
            }
        }
        x.restore();
        check.same("37: the events", Answers.all(x), before);
        check.same("37: the last event", x.event(59, 2), 1);
    }

    private static void refusalIsNotSaved(Check check) {
        BuddyBlockScheduler x = new BuddyBlockScheduler();
        x.reserve(5, 3, 2);
        x.save();
        check.refused("36: a refusal", () -> x.reserve(0, 3, 1));
        x.restore();
        check.same("36: the refusal stays", x.refusal(), 3);
        x.save();
        x.reserve(0, 9, 1);
        x.restore();
        check.same("36: it does not come back", x.refusal(), 0);
    }

    private static void newJobsAfterRestoreAreNew(Check check) {
        BuddyBlockScheduler x = new BuddyBlockScheduler();
        x.save();
        x.submit(0, 5, 9, 9);
        x.advance(2);
        x.preempt(0, 1);
        x.advance(3);
        x.restore();
        x.reserve(5, 0, 2);
        x.submit(1, 0, 3, 3);
        check.same("37: no preemptions", x.preemptions(0), 0);
        check.same("37: no usage", x.usage(1), 0);
        check.refused("37: never started", () -> x.waitTime(0));
        check.same("37: no starts", x.blockStarts(5, 0), 0);
        x.advance(3);
        check.same("37: usage", x.usage(1), 1);
        check.same("37: usage of the other user", x.usage(0), 0);
    }
}
