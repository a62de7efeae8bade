/**
 * All that a scheduler answers after a run of calls, as one text with a line for each answer. What
 * refusal answers is not in it: the document leaves it out of the state.
 */
final class Answers {
    private static final int UNITS_AT_ONCE = 8;

    private final Calls calls;
    private final StringBuilder text = new StringBuilder();

    private Answers(Calls calls) {
        this.calls = calls;
    }

    static String after(Calls calls) {
        Answers answers = new Answers(calls);
        answers.addFigures();
        answers.addJobs();
        answers.addBlocks();
        answers.addEvents();
        answers.addUnits();
        return answers.text.toString();
    }

    private void addFigures() {
        BuddyBlockScheduler x = calls.played();
        add("clock", x.clock());
        add("jobs", x.jobCount());
        add("averageWait", Check.outcome(x::averageWait));
        add("utilization", Check.outcome(x::utilization));
        add("makespan", x.makespan());
        add("largestFree", Check.outcome(x::largestFree));
        add("fragmentation", Check.outcome(x::fragmentation));
        add("busiestBlock", Check.outcome(x::busiestBlock));
        for (int i = 0; i < 7; i++) {
            int number = i;
            add("usage " + i, Check.outcome(() -> x.usage(number)));
            add("reserved " + i, Check.outcome(() -> x.reservedProcessor(number)));
            add("freeBlocks " + i, Check.outcome(() -> x.freeBlocks(number)));
        }
        add("fair", x.setFair(false));
    }

    private void addJobs() {
        BuddyBlockScheduler x = calls.played();
        int jobs = x.jobCount();
        for (int i = 0; i < jobs; i++) {
            int job = i;
            add("state " + job, x.state(job));
            add("start " + job, Check.outcome(() -> x.startTime(job)));
            add("processor " + job, Check.outcome(() -> x.firstProcessor(job)));
            add("promise " + job, x.promise(job));
            add("finish " + job, Check.outcome(() -> x.finishTime(job)));
            add("preemptions " + job, x.preemptions(job));
            add("wait " + job, Check.outcome(() -> x.waitTime(job)));
            add("slowdown " + job, Check.outcome(() -> x.slowdown(job)));
        }
    }

    private void addBlocks() {
        BuddyBlockScheduler x = calls.played();
        int clock = x.clock();
        for (int order = 0; order < 6; order++) {
            int k = order;
            for (int first = 0; first < 32; first += 1 << order) {
                add("starts " + order + " " + first, x.blockStarts(order, first));
            }
            for (int length : new int[] {1, 7, 40}) {
                add("earliest " + order + " " + length, x.earliestStart(order, length));
                int from = Math.min(1000, clock + length);
                add("lowest " + order + " " + length, Check.outcome(() -> x.lowestBlock(k, from, length)));
            }
        }
    }

    private void addEvents() {
        BuddyBlockScheduler x = calls.played();
        int events = x.eventCount();
        for (int i = 0; i < events; i++) {
            add("event " + i, x.event(i, 0) + " " + x.event(i, 1) + " " + x.event(i, 2));
        }
    }

    private void addUnits() {
        BuddyBlockScheduler end = calls.played();
        int first = Math.max(0, end.clock() - 40);
        int last = end.makespan() + 45;
        for (int from = first; from < last; from += UNITS_AT_ONCE) {
            BuddyBlockScheduler x = calls.played();
            for (int unit = from; unit < from + UNITS_AT_ONCE; unit++) {
                add("free in " + unit, x.freeProcessors(unit));
                text.append("owners in ").append(unit);
                for (int processor = 0; processor < 32; processor++) {
                    text.append(' ').append(x.ownerAt(processor, unit));
                }
                text.append('\n');
            }
        }
    }

    private void add(String what, Object answer) {
        text.append(what).append('=').append(answer).append('\n');
    }
}
