import java.util.Random;

/** Long runs of calls, with right and wrong arguments, on the class and on the model side by side. */
final class RandomRunsTest {
    private static final int RUNS = 3000;
    // What an object answers after its 512th call is free.
    private static final int CALLS = 512;
    private static final int CALLS_TO_LOOK_ROUND = 100;
    private static final int[] ODD = {
        Integer.MIN_VALUE, Integer.MIN_VALUE + 1, -100, -2, -1, 0, 1, 2, 5, 6, 7, 9, 10, 16, 23, 24, 31, 32, 33, 40,
        41, 50, 51, 60, 64, 100, 999, 1000, 1001, Integer.MAX_VALUE - 1, Integer.MAX_VALUE,
    };

    private final Check check;
    private final Random random;
    private final int seed;
    private final int largestOrder;
    private final int longest;
    private final int longestAdvance;
    private final int asksPerChange;
    private final BuddyBlockScheduler x = new BuddyBlockScheduler();
    private final Model m = new Model();
    private int calls = 0;

    private RandomRunsTest(Check check, int seed) {
        this.check = check;
        this.seed = seed;
        // A fixed seed: the same runs every time.
        random = new Random(seed);
        largestOrder = 1 + random.nextInt(5);
        longest = 3 + random.nextInt(38);
        longestAdvance = seed % 8 == 0 ? 50 : 1 + random.nextInt(8);
        asksPerChange = random.nextInt(4);
    }

    static void run(Check check) {
        for (int seed = 0; seed < RUNS && check.failures() < 20; seed++) {
            RandomRunsTest test = new RandomRunsTest(check, seed);
            while (test.calls < CALLS - CALLS_TO_LOOK_ROUND && check.failures() < 20) {
                test.change();
                for (int i = 0; i < test.asksPerChange; i++) {
                    test.ask();
                }
            }
            while (test.calls < CALLS) {
                test.ask();
            }
        }
    }

    private void same(String call, Check.Call got, Check.Call want) {
        calls++;
        check.same("random run " + seed + ", call " + calls + ": " + call, Check.outcome(got), Check.outcome(want));
    }

    private int upTo(int greatest) {
        return random.nextInt(greatest + 1);
    }

    private int odd() {
        return ODD[random.nextInt(ODD.length)];
    }

    private void change() {
        int choice = random.nextInt(100);
        int job = upTo(24) == 0 ? odd() : upTo(Math.max(0, m.jobCount() - 1));
        if (choice < 28) {
            submit();
        } else if (choice < 55) {
            int ticks = 1 + random.nextInt(longestAdvance);
            same("advance(" + ticks + ")", () -> x.advance(ticks), () -> m.advance(ticks));
        } else if (choice < 62) {
            same("cancel(" + job + ")", () -> x.cancel(job), () -> m.cancel(job));
        } else if (choice < 77) {
            int cost = upTo(9);
            same("preempt(" + job + ", " + cost + ")", () -> x.preempt(job, cost), () -> m.preempt(job, cost));
        } else if (choice < 82) {
            reserve();
        } else if (choice < 85) {
            cancelReservation();
        } else if (choice < 90) {
            boolean on = random.nextBoolean();
            same("setFair(" + on + ")", () -> x.setFair(on), () -> m.setFair(on));
        } else if (choice < 93) {
            same("save()", () -> {
                x.save();
                return 0;
            }, m::save);
        } else if (choice < 95) {
            same("restore()", x::restore, m::restore);
        } else {
            wrongChange();
        }
    }

    private void submit() {
        int user = upTo(3);
        int order = upTo(largestOrder);
        int estimate = 1 + random.nextInt(longest);
        int run = random.nextInt(3) == 0 ? estimate : 1 + random.nextInt(estimate);
        same("submit(" + user + ", " + order + ", " + estimate + ", " + run + ")",
                () -> x.submit(user, order, estimate, run), () -> m.submit(user, order, estimate, run));
    }

    private void reserve() {
        int order = upTo(largestOrder);
        int from = Math.max(0, Math.min(1000, m.clock() - 2 + upTo(30)));
        int length = 1 + random.nextInt(longest);
        same("reserve(" + order + ", " + from + ", " + length + ")",
                () -> x.reserve(order, from, length), () -> m.reserve(order, from, length));
    }

    private void cancelReservation() {
        int number = upTo(6);
        same("cancelReservation(" + number + ")", () -> {
            x.cancelReservation(number);
            return 0;
        }, () -> m.cancelReservation(number));
    }

    private void wrongChange() {
        int a = odd();
        int b = odd();
        int c = odd();
        int d = odd();
        int choice = random.nextInt(5);
        if (choice == 0) {
            same("submit(" + a + ", " + b + ", " + c + ", " + d + ")",
                    () -> x.submit(a, b, c, d), () -> m.submit(a, b, c, d));
        } else if (choice == 1) {
            same("reserve(" + a + ", " + b + ", " + c + ")", () -> x.reserve(a, b, c), () -> m.reserve(a, b, c));
        } else if (choice == 2) {
            same("preempt(" + a + ", " + b + ")", () -> x.preempt(a, b), () -> m.preempt(a, b));
        } else if (choice == 3) {
            same("cancel(" + a + ")", () -> x.cancel(a), () -> m.cancel(a));
        } else {
            same("advance(" + a + ")", () -> x.advance(a), () -> m.advance(a));
        }
    }

    /** One question, with odd arguments now and then. */
    private void ask() {
        int job = random.nextInt(12) == 0 ? odd() : upTo(Math.max(0, m.jobCount() - 1));
        int order = random.nextInt(12) == 0 ? odd() : upTo(5);
        int unit = random.nextInt(12) == 0 ? odd() : Math.max(0, Math.min(1000, m.clock() - 5 + upTo(45)));
        switch (random.nextInt(4)) {
            case 0 -> askFigure(order);
            case 1 -> askJob(job);
            case 2 -> askBlock(order, unit);
            default -> askUnit(unit);
        }
    }

    private void askFigure(int small) {
        switch (random.nextInt(12)) {
            case 0 -> same("clock()", x::clock, m::clock);
            case 1 -> same("refusal()", x::refusal, m::refusal);
            case 2 -> same("makespan()", x::makespan, m::makespan);
            case 3 -> same("jobCount()", x::jobCount, m::jobCount);
            case 4 -> same("eventCount()", x::eventCount, m::eventCount);
            case 5 -> same("averageWait()", x::averageWait, m::averageWait);
            case 6 -> same("utilization()", x::utilization, m::utilization);
            case 7 -> same("largestFree()", x::largestFree, m::largestFree);
            case 8 -> same("fragmentation()", x::fragmentation, m::fragmentation);
            case 9 -> same("busiestBlock()", x::busiestBlock, m::busiestBlock);
            case 10 -> same("usage(" + small + ")", () -> x.usage(small), () -> m.usage(small));
            default -> same("reservedProcessor(" + small + ")",
                    () -> x.reservedProcessor(small), () -> m.reservedProcessor(small));
        }
    }

    private void askJob(int job) {
        switch (random.nextInt(8)) {
            case 0 -> same("state(" + job + ")", () -> x.state(job), () -> m.state(job));
            case 1 -> same("startTime(" + job + ")", () -> x.startTime(job), () -> m.startTime(job));
            case 2 -> same("firstProcessor(" + job + ")", () -> x.firstProcessor(job), () -> m.firstProcessor(job));
            case 3 -> same("promise(" + job + ")", () -> x.promise(job), () -> m.promise(job));
            case 4 -> same("finishTime(" + job + ")", () -> x.finishTime(job), () -> m.finishTime(job));
            case 5 -> same("preemptions(" + job + ")", () -> x.preemptions(job), () -> m.preemptions(job));
            case 6 -> same("waitTime(" + job + ")", () -> x.waitTime(job), () -> m.waitTime(job));
            default -> same("slowdown(" + job + ")", () -> x.slowdown(job), () -> m.slowdown(job));
        }
    }

    private void askBlock(int order, int from) {
        int length = random.nextInt(12) == 0 ? odd() : 1 + upTo(39);
        int blocks = order >= 0 && order <= 5 ? 32 >> order : 1;
        int first = random.nextInt(6) == 0 ? odd() : upTo(blocks - 1) << order;
        switch (random.nextInt(4)) {
            case 0 -> same("freeBlocks(" + order + ")", () -> x.freeBlocks(order), () -> m.freeBlocks(order));
            case 1 -> same("earliestStart(" + order + ", " + length + ")",
                    () -> x.earliestStart(order, length), () -> m.earliestStart(order, length));
            case 2 -> same("lowestBlock(" + order + ", " + from + ", " + length + ")",
                    () -> x.lowestBlock(order, from, length), () -> m.lowestBlock(order, from, length));
            default -> same("blockStarts(" + order + ", " + first + ")",
                    () -> x.blockStarts(order, first), () -> m.blockStarts(order, first));
        }
    }

    private void askUnit(int unit) {
        int processor = random.nextInt(12) == 0 ? odd() : upTo(31);
        int index = random.nextInt(12) == 0 ? odd() : upTo(59);
        int column = random.nextInt(12) == 0 ? odd() : upTo(2);
        switch (random.nextInt(3)) {
            case 0 -> same("ownerAt(" + processor + ", " + unit + ")",
                    () -> x.ownerAt(processor, unit), () -> m.ownerAt(processor, unit));
            case 1 -> same("freeProcessors(" + unit + ")", () -> x.freeProcessors(unit), () -> m.freeProcessors(unit));
            default -> same("event(" + index + ", " + column + ")",
                    () -> x.event(index, column), () -> m.event(index, column));
        }
    }
}
