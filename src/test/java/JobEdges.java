/** The edges that promises 12 to 17, 19 and 21 name: what is asked of one job. */
final class JobEdges {
    static void run(Check check) {
        countFromNoneToTwentyFour(check);
        stateOfNoSuchJob(check);
        eachState(check);
        startTimeOfNoSuchJob(check);
        startTimeInEachState(check);
        startTimeOfAPreemptedJob(check);
        firstProcessorOfNoSuchJob(check);
        firstProcessorInEachState(check);
        lastBlockOfEachOrder(check);
        promiseOfNoSuchJob(check);
        promiseInEachState(check);
        finishTimeOfNoSuchJob(check);
        finishTimeInEachState(check);
        finishTimeOfAPreemptedJob(check);
        waitTimeOfNoSuchJob(check);
        waitTimeInEachState(check);
        waitTimeOfZero(check);
        waitTimeOfTheFirstStart(check);
        slowdownOfNoSuchJob(check);
        slowdownInEachState(check);
        leastSlowdown(check);
        slowdownByTheRunningTimeAtFirst(check);
        slowdownIsAFloat(check);
    }

    private interface Question {
        void ask(BuddyBlockScheduler x, int job);
    }

    /** Finished (0), running (1), waiting (2), cancelled before its start (3) and while it ran (4). */
    private static BuddyBlockScheduler inEachState() {
        BuddyBlockScheduler x = new BuddyBlockScheduler();
        x.submit(0, 4, 9, 2);
        x.submit(0, 4, 9, 8);
        x.submit(0, 5, 9, 9);
        x.submit(0, 5, 9, 9);
        x.submit(0, 3, 2, 2);
        x.advance(2);
        x.cancel(3);
        x.cancel(4);
        return x;
    }

    /** "IndexOutOfBoundsException if there is no such job", with no job, with some, and with all of them. */
    private static void noSuchJob(Check check, String what, Question question) {
        BuddyBlockScheduler none = new BuddyBlockScheduler();
        check.outside(what + "(0) without jobs", () -> question.ask(none, 0));
        check.outside(what + "(-1) without jobs", () -> question.ask(none, -1));
        BuddyBlockScheduler some = inEachState();
        for (int job : new int[] {-1, 5, 6, 23, 24, 100, Integer.MIN_VALUE, Integer.MAX_VALUE}) {
            check.outside(what + "(" + job + ") of 5 jobs", () -> question.ask(some, job));
        }
        BuddyBlockScheduler all = new BuddyBlockScheduler();
        for (int job = 0; job < 24; job++) {
            all.submit(0, 0, 9, 1);
        }
        check.outside(what + "(24) of 24 jobs", () -> question.ask(all, 24));
        check.outside(what + "(-1) of 24 jobs", () -> question.ask(all, -1));
    }

    /** "0 to 24" */
    private static void countFromNoneToTwentyFour(Check check) {
        BuddyBlockScheduler x = new BuddyBlockScheduler();
        for (int job = 0; job < 24; job++) {
            check.same("12: jobs", x.jobCount(), job);
            x.submit(0, 5, 1, 1);
        }
        check.same("12: all", x.jobCount(), 24);
        x.cancel(23);
        x.advance(1);
        check.same("12: those that are over count", x.jobCount(), 24);
        check.refused("2: one more", () -> x.submit(0, 5, 1, 1));
        check.same("12: all still", x.jobCount(), 24);
    }

    private static void stateOfNoSuchJob(Check check) {
        noSuchJob(check, "13: state", BuddyBlockScheduler::state);
    }

    /** "waiting (0), running (1), finished (2) and cancelled (3)" */
    private static void eachState(Check check) {
        BuddyBlockScheduler x = inEachState();
        check.same("13: waiting", x.state(2), 0);
        check.same("13: running", x.state(1), 1);
        check.same("13: finished", x.state(0), 2);
        check.same("13: cancelled before its start", x.state(3), 3);
        check.same("13: cancelled while it ran", x.state(4), 3);
        BuddyBlockScheduler y = new BuddyBlockScheduler();
        for (int job = 0; job < 24; job++) {
            y.submit(0, 0, 9, 1);
        }
        check.same("13: the last of 24 jobs", y.state(23), 1);
    }

    private static void startTimeOfNoSuchJob(Check check) {
        noSuchJob(check, "14: startTime", BuddyBlockScheduler::startTime);
    }

    /** "IllegalStateException if the job is neither waiting nor running" */
    private static void startTimeInEachState(Check check) {
        BuddyBlockScheduler x = inEachState();
        check.same("14: waiting", x.startTime(2), 9);
        check.same("14: running", x.startTime(1), 0);
        check.refused("14: finished", () -> x.startTime(0));
        check.refused("14: cancelled before its start", () -> x.startTime(3));
        check.refused("14: cancelled while it ran", () -> x.startTime(4));
    }

    /** "when a running job was started last" */
    private static void startTimeOfAPreemptedJob(Check check) {
        BuddyBlockScheduler x = new BuddyBlockScheduler();
        x.submit(0, 5, 9, 9);
        x.submit(0, 5, 3, 3);
        x.advance(2);
        x.preempt(0, 0);
        check.same("14: planned again", x.startTime(0), 5);
        x.advance(3);
        check.same("14: started again", x.startTime(0), 5);
        check.same("13: and running", x.state(0), 1);
    }

    private static void firstProcessorOfNoSuchJob(Check check) {
        noSuchJob(check, "15: firstProcessor", BuddyBlockScheduler::firstProcessor);
    }

    private static void firstProcessorInEachState(Check check) {
        BuddyBlockScheduler x = inEachState();
        check.same("15: waiting", x.firstProcessor(2), 0);
        check.same("15: running", x.firstProcessor(1), 16);
        check.refused("15: finished", () -> x.firstProcessor(0));
        check.refused("15: cancelled before its start", () -> x.firstProcessor(3));
        check.refused("15: cancelled while it ran", () -> x.firstProcessor(4));
    }

    private static void lastBlockOfEachOrder(Check check) {
        for (int order = 0; order < 6; order++) {
            BuddyBlockScheduler x = new BuddyBlockScheduler();
            for (int larger = 4; larger >= order; larger--) {
                x.submit(0, larger, 1, 1);
            }
            int job = x.jobCount();
            check.same("2: order " + order, x.submit(0, order, 1, 1), 0);
            check.same("15: the last block of order " + order, x.firstProcessor(job), 32 - (1 << order));
            check.same("2: one more of order " + order, x.submit(0, order, 1, 1), 1);
            check.same("15: the first block of order " + order, x.firstProcessor(job + 1), 0);
        }
    }

    private static void promiseOfNoSuchJob(Check check) {
        noSuchJob(check, "16: promise", BuddyBlockScheduler::promise);
    }

    /** "the planned start that it got when it was submitted", in all states */
    private static void promiseInEachState(Check check) {
        BuddyBlockScheduler x = inEachState();
        check.same("16: finished", x.promise(0), 0);
        check.same("16: running", x.promise(1), 0);
        check.same("16: waiting", x.promise(2), 9);
        check.same("16: cancelled before its start", x.promise(3), 18);
        check.same("16: cancelled while it ran", x.promise(4), 27);
        x.advance(6);
        check.same("14: started before its promise", x.startTime(2), 8);
        check.same("16: its promise", x.promise(2), 9);
    }

    private static void finishTimeOfNoSuchJob(Check check) {
        noSuchJob(check, "17: finishTime", BuddyBlockScheduler::finishTime);
    }

    /** "IllegalStateException if the job is not finished" */
    private static void finishTimeInEachState(Check check) {
        BuddyBlockScheduler x = inEachState();
        check.same("17: finished", x.finishTime(0), 2);
        check.refused("17: running", () -> x.finishTime(1));
        check.refused("17: waiting", () -> x.finishTime(2));
        check.refused("17: cancelled before its start", () -> x.finishTime(3));
        check.refused("17: cancelled while it ran", () -> x.finishTime(4));
        x.advance(40);
        check.same("17: it stays", x.finishTime(0), 2);
        check.same("17: the running one", x.finishTime(1), 8);
        check.same("17: the waiting one", x.finishTime(2), 17);
    }

    private static void finishTimeOfAPreemptedJob(Check check) {
        BuddyBlockScheduler x = new BuddyBlockScheduler();
        x.submit(0, 5, 4, 4);
        x.advance(3);
        x.preempt(0, 9);
        check.refused("17: not yet", () -> x.finishTime(0));
        x.advance(10);
        check.same("17: ten units later", x.finishTime(0), 13);
    }

    private static void waitTimeOfNoSuchJob(Check check) {
        noSuchJob(check, "19: waitTime", BuddyBlockScheduler::waitTime);
    }

    /** "IllegalStateException if the job was never started" */
    private static void waitTimeInEachState(Check check) {
        BuddyBlockScheduler x = new BuddyBlockScheduler();
        x.submit(0, 5, 9, 4);
        x.advance(1);
        x.submit(0, 5, 9, 9);
        x.submit(0, 5, 9, 9);
        x.submit(0, 5, 9, 9);
        check.refused("19: waiting", () -> x.waitTime(1));
        x.cancel(3);
        check.refused("19: cancelled before its start", () -> x.waitTime(3));
        x.advance(3);
        check.same("19: finished", x.waitTime(0), 0);
        check.same("19: running", x.waitTime(1), 3);
        x.advance(2);
        x.cancel(1);
        check.same("19: cancelled while it ran", x.waitTime(1), 3);
        check.same("19: the next one", x.waitTime(2), 5);
    }

    private static void waitTimeOfZero(Check check) {
        BuddyBlockScheduler x = AdvanceEdges.atThousand();
        x.submit(0, 5, 9, 4);
        check.same("19: at once, at 1000", x.waitTime(0), 0);
        x.submit(0, 5, 9, 4);
        check.refused("19: planned behind 1000", () -> x.waitTime(1));
    }

    /** "the time at which it was started for the first time" */
    private static void waitTimeOfTheFirstStart(Check check) {
        BuddyBlockScheduler x = new BuddyBlockScheduler();
        x.submit(0, 5, 2, 2);
        x.submit(0, 5, 9, 9);
        x.submit(0, 5, 9, 9);
        x.advance(3);
        check.same("19: started at 2", x.waitTime(1), 2);
        x.preempt(1, 0);
        check.same("19: waiting again", x.waitTime(1), 2);
        x.advance(20);
        check.same("19: started again", x.waitTime(1), 2);
    }

    private static void slowdownOfNoSuchJob(Check check) {
        noSuchJob(check, "21: slowdown", BuddyBlockScheduler::slowdown);
    }

    /** "IllegalStateException if the job is not finished" */
    private static void slowdownInEachState(Check check) {
        BuddyBlockScheduler x = inEachState();
        check.same("21: finished", x.slowdown(0), 1.0f);
        check.refused("21: running", () -> x.slowdown(1));
        check.refused("21: waiting", () -> x.slowdown(2));
        check.refused("21: cancelled before its start", () -> x.slowdown(3));
        check.refused("21: cancelled while it ran", () -> x.slowdown(4));
    }

    private static void leastSlowdown(Check check) {
        BuddyBlockScheduler x = AdvanceEdges.at(7);
        x.submit(0, 5, 40, 1);
        x.submit(0, 5, 40, 40);
        x.advance(41);
        check.same("21: without waiting", x.slowdown(0), 1.0f);
        check.same("21: one unit of waiting", x.slowdown(1), 41.0f / 40.0f);
    }

    /** "divided by the running time with which it was submitted" */
    private static void slowdownByTheRunningTimeAtFirst(Check check) {
        BuddyBlockScheduler x = new BuddyBlockScheduler();
        x.submit(0, 5, 9, 3);
        x.preempt(0, 9);
        x.advance(12);
        check.same("21: twelve units of three", x.slowdown(0), 4.0f);
    }

    private static void slowdownIsAFloat(Check check) {
        BuddyBlockScheduler x = new BuddyBlockScheduler();
        x.submit(0, 5, 7, 7);
        x.submit(0, 5, 3, 3);
        x.advance(10);
        check.same("21: ten thirds", x.slowdown(1), (float) 10 / (float) 3);
    }
}
