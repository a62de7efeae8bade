import java.util.Random;

/** Long runs of calls, with right and wrong arguments, on the class and on the model side by side. */
final class RandomRunsTest {
    private static final int RUNS = 400;
    private static final int CALLS = 160;
    private static final int[] ODD = {
        Integer.MIN_VALUE, Integer.MIN_VALUE + 1, -100, -2, -1, 0, 1, 2, 5, 6, 7, 9, 10, 16, 23, 24, 31, 32, 33, 40,
        41, 50, 51, 60, 64, 100, 999, 1000, 1001, Integer.MAX_VALUE - 1, Integer.MAX_VALUE,
    };

    private final Check check;
    private final Random random;
    private final int seed;
    private final int largestOrder;
    private final int longest;
    private final int longestAdvance;
    private final BuddyBlockScheduler x = new BuddyBlockScheduler();
    private final Model m = new Model();

    private RandomRunsTest(Check check, int seed) {
        this.check = check;
        this.seed = seed;
        // A fixed seed: the same runs every time.
        random = new Random(seed);
        largestOrder = 1 + random.nextInt(5);
        longest = 3 + random.nextInt(38);
        longestAdvance = seed % 8 == 0 ? 50 : 1 + random.nextInt(8);
    }

    static void run(Check check) {
        for (int seed = 0; seed < RUNS && check.failures() < 20; seed++) {
            RandomRunsTest test = new RandomRunsTest(check, seed);
            for (int i = 0; i < CALLS && check.failures() < 20; i++) {
                test.change();
                test.ask();
                if (i % 8 == 0) {
                    test.askAll();
                }
            }
        }
    }

    private void same(String call, Check.Call got, Check.Call want) {
        check.same("random run " + seed + ": " + call, Check.outcome(got), Check.outcome(want));
    }

    private int upTo(int greatest) {
        return random.nextInt(greatest + 1);
    }

    private int odd() {
        return ODD[random.nextInt(ODD.length)];
    }

    private void change() {
        int choice = random.nextInt(100);
        int job = upTo(24) == 0 ? odd() : upTo(Math.max(0, m.jobCount() - 1));
        if (choice < 28) {
            submit();
        } else if (choice < 55) {
            int ticks = 1 + random.nextInt(longestAdvance);
            same("advance(" + ticks + ")", () -> x.advance(ticks), () -> m.advance(ticks));
        } else if (choice < 62) {
            same("cancel(" + job + ")", () -> x.cancel(job), () -> m.cancel(job));
        } else if (choice < 77) {
            int cost = upTo(9);
            same("preempt(" + job + ", " + cost + ")", () -> x.preempt(job, cost), () -> m.preempt(job, cost));
        } else if (choice < 82) {
            reserve();
        } else if (choice < 85) {
            cancelReservation();
        } else if (choice < 90) {
            boolean on = random.nextBoolean();
            same("setFair(" + on + ")", () -> x.setFair(on), () -> m.setFair(on));
        } else if (choice < 93) {
            x.save();
            m.save();
        } else if (choice < 95) {
            same("restore()", x::restore, m::restore);
        } else {
            wrongChange();
        }
    }

    private void submit() {
        int user = upTo(3);
        int order = upTo(largestOrder);
        int estimate = 1 + random.nextInt(longest);
        int run = random.nextInt(3) == 0 ? estimate : 1 + random.nextInt(estimate);
        same("submit(" + user + ", " + order + ", " + estimate + ", " + run + ")",
                () -> x.submit(user, order, estimate, run), () -> m.submit(user, order, estimate, run));
    }

    private void reserve() {
        int order = upTo(largestOrder);
        int from = Math.max(0, Math.min(1000, m.clock() - 2 + upTo(30)));
        int length = 1 + random.nextInt(longest);
        same("reserve(" + order + ", " + from + ", " + length + ")",
                () -> x.reserve(order, from, length), () -> m.reserve(order, from, length));
    }

    private void cancelReservation() {
        int number = upTo(6);
        same("cancelReservation(" + number + ")", () -> {
            x.cancelReservation(number);
            return 0;
        }, () -> m.cancelReservation(number));
    }

    private void wrongChange() {
        int a = odd();
        int b = odd();
        int c = odd();
        int d = odd();
        same("submit(" + a + ", " + b + ", " + c + ", " + d + ")", () -> x.submit(a, b, c, d), () -> m.submit(a, b, c, d));
        same("reserve(" + a + ", " + b + ", " + c + ")", () -> x.reserve(a, b, c), () -> m.reserve(a, b, c));
        same("preempt(" + a + ", " + b + ")", () -> x.preempt(a, b), () -> m.preempt(a, b));
        same("cancel(" + a + ")", () -> x.cancel(a), () -> m.cancel(a));
        if (a > 50 || a < 1) {
            same("advance(" + a + ")", () -> x.advance(a), () -> m.advance(a));
        }
    }

    /** Some questions after each change, with odd arguments among them. */
    private void ask() {
        int a = random.nextInt(4) == 0 ? odd() : upTo(31);
        int b = random.nextInt(4) == 0 ? odd() : upTo(60);
        int c = random.nextInt(4) == 0 ? odd() : 1 + upTo(39);
        int order = random.nextInt(8) == 0 ? odd() : upTo(5);
        int from = random.nextInt(8) == 0 ? odd() : Math.min(1000, m.clock() + upTo(40));
        same("clock()", x::clock, m::clock);
        same("refusal()", x::refusal, m::refusal);
        same("makespan()", x::makespan, m::makespan);
        same("jobCount()", x::jobCount, m::jobCount);
        same("eventCount()", x::eventCount, m::eventCount);
        same("ownerAt(" + a + ", " + from + ")", () -> x.ownerAt(a, from), () -> m.ownerAt(a, from));
        same("freeProcessors(" + from + ")", () -> x.freeProcessors(from), () -> m.freeProcessors(from));
        same("earliestStart(" + order + ", " + c + ")", () -> x.earliestStart(order, c), () -> m.earliestStart(order, c));
        same("lowestBlock(" + order + ", " + from + ", " + c + ")",
                () -> x.lowestBlock(order, from, c), () -> m.lowestBlock(order, from, c));
        same("blockStarts(" + order + ", " + a + ")", () -> x.blockStarts(order, a), () -> m.blockStarts(order, a));
        same("event(" + b + ", " + order + ")", () -> x.event(b, order), () -> m.event(b, order));
        same("usage(" + a + ")", () -> x.usage(a), () -> m.usage(a));
        same("freeBlocks(" + order + ")", () -> x.freeBlocks(order), () -> m.freeBlocks(order));
        same("reservedProcessor(" + a + ")", () -> x.reservedProcessor(a), () -> m.reservedProcessor(a));
        askJob(a);
    }

    private void askJob(int job) {
        same("state(" + job + ")", () -> x.state(job), () -> m.state(job));
        same("startTime(" + job + ")", () -> x.startTime(job), () -> m.startTime(job));
        same("firstProcessor(" + job + ")", () -> x.firstProcessor(job), () -> m.firstProcessor(job));
        same("promise(" + job + ")", () -> x.promise(job), () -> m.promise(job));
        same("finishTime(" + job + ")", () -> x.finishTime(job), () -> m.finishTime(job));
        same("preemptions(" + job + ")", () -> x.preemptions(job), () -> m.preemptions(job));
        same("waitTime(" + job + ")", () -> x.waitTime(job), () -> m.waitTime(job));
        same("slowdown(" + job + ")", () -> x.slowdown(job), () -> m.slowdown(job));
    }

    private void askAll() {
        for (int job = -1; job <= m.jobCount(); job++) {
            askJob(job);
        }
        for (int i = 0; i < 60; i++) {
            int index = i;
            for (int k = 0; k < 3; k++) {
                int column = k;
                same("event(" + i + ", " + k + ")", () -> x.event(index, column), () -> m.event(index, column));
            }
        }
        for (int i = -1; i < 7; i++) {
            int number = i;
            same("usage(" + i + ")", () -> x.usage(number), () -> m.usage(number));
            same("freeBlocks(" + i + ")", () -> x.freeBlocks(number), () -> m.freeBlocks(number));
            same("reservedProcessor(" + i + ")", () -> x.reservedProcessor(number), () -> m.reservedProcessor(number));
        }
        same("averageWait()", x::averageWait, m::averageWait);
        same("utilization()", x::utilization, m::utilization);
        same("largestFree()", x::largestFree, m::largestFree);
        same("fragmentation()", x::fragmentation, m::fragmentation);
        same("busiestBlock()", x::busiestBlock, m::busiestBlock);
        for (int unit = Math.max(0, m.clock() - 3); unit < m.makespan() + 2; unit += 1 + unit % 5) {
            int then = unit;
            same("freeProcessors(" + unit + ")", () -> x.freeProcessors(then), () -> m.freeProcessors(then));
            for (int p = 0; p < 32; p += 3) {
                int processor = p;
                same("ownerAt(" + p + ", " + unit + ")", () -> x.ownerAt(processor, then), () -> m.ownerAt(processor, then));
            }
        }
    }
}
