/** All that a scheduler answers without being changed, as one text. */
final class Answers {
    static String all(BuddyBlockScheduler x) {
        StringBuilder text = new StringBuilder();
        add(text, "clock", x.clock());
        add(text, "jobs", x.jobCount());
        add(text, "averageWait", Check.outcome(x::averageWait));
        add(text, "utilization", Check.outcome(x::utilization));
        add(text, "makespan", x.makespan());
        add(text, "largestFree", Check.outcome(x::largestFree));
        add(text, "fragmentation", Check.outcome(x::fragmentation));
        add(text, "busiestBlock", Check.outcome(x::busiestBlock));
        for (int i = -1; i <= x.jobCount(); i++) {
            addJob(text, x, i);
        }
        for (int i = -1; i <= 6; i++) {
            int number = i;
            add(text, "usage " + i, Check.outcome(() -> x.usage(number)));
            add(text, "reserved " + i, Check.outcome(() -> x.reservedProcessor(number)));
            add(text, "freeBlocks " + i, Check.outcome(() -> x.freeBlocks(number)));
        }
        addBlocks(text, x);
        addOwners(text, x);
        add(text, "events", x.eventCount());
        for (int i = 0; i < x.eventCount(); i++) {
            add(text, "event " + i, x.event(i, 0) + " " + x.event(i, 1) + " " + x.event(i, 2));
        }
        return text.toString();
    }

    private static void addJob(StringBuilder text, BuddyBlockScheduler x, int job) {
        add(text, "state " + job, Check.outcome(() -> x.state(job)));
        add(text, "start " + job, Check.outcome(() -> x.startTime(job)));
        add(text, "processor " + job, Check.outcome(() -> x.firstProcessor(job)));
        add(text, "promise " + job, Check.outcome(() -> x.promise(job)));
        add(text, "finish " + job, Check.outcome(() -> x.finishTime(job)));
        add(text, "preemptions " + job, Check.outcome(() -> x.preemptions(job)));
        add(text, "wait " + job, Check.outcome(() -> x.waitTime(job)));
        add(text, "slowdown " + job, Check.outcome(() -> x.slowdown(job)));
    }

    private static void addBlocks(StringBuilder text, BuddyBlockScheduler x) {
        for (int order = 0; order < 6; order++) {
            int k = order;
            for (int first = 0; first < 32; first += 1 << order) {
                add(text, "starts " + order + " " + first, x.blockStarts(order, first));
            }
            for (int length : new int[] {1, 7, 40}) {
                add(text, "earliest " + order + " " + length, x.earliestStart(order, length));
                int from = Math.min(1000, x.clock() + length);
                add(text, "lowest " + order + " " + length, Check.outcome(() -> x.lowestBlock(k, from, length)));
            }
        }
    }

    private static void addOwners(StringBuilder text, BuddyBlockScheduler x) {
        int last = x.makespan() + 45;
        for (int unit = Math.max(0, x.clock() - 40); unit < last; unit += 1 + unit % 3) {
            add(text, "free " + unit, x.freeProcessors(unit));
            for (int processor = 0; processor < 32; processor++) {
                text.append(x.ownerAt(processor, unit)).append(' ');
            }
        }
    }

    private static void add(StringBuilder text, String what, Object answer) {
        text.append(what).append('=').append(answer).append('\n');
    }
}
