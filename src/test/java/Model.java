import java.util.ArrayList;
import java.util.List;
import java.util.NoSuchElementException;

/**
 * The document once more, written as plainly as can be: unit by unit and processor by processor,
 * with an object for each job. The random runs compare the class with it.
 */
final class Model {
    static final class Allocation {
        int order;
        int first;
        int from;
        int length;

        boolean covers(int processor, int unit) {
            return processor >= first && processor < first + (1 << order) && unit >= from && unit < from + length;
        }

        Allocation copy() {
            Allocation a = new Allocation();
            a.order = order;
            a.first = first;
            a.from = from;
            a.length = length;
            return a;
        }
    }

    static final class Job {
        int number;
        int user;
        int order;
        int estimate;
        int run;
        int submittedRun;
        int submitted;
        int promise;
        int state;
        int preemptions;
        int finish;
        // The units in which the job ran, each by its number.
        List<Integer> ranIn = new ArrayList<>();
        List<Integer> startedAt = new ArrayList<>();
        Allocation allocation;

        Job copy() {
            Job j = new Job();
            j.number = number;
            j.user = user;
            j.order = order;
            j.estimate = estimate;
            j.run = run;
            j.submittedRun = submittedRun;
            j.submitted = submitted;
            j.promise = promise;
            j.state = state;
            j.preemptions = preemptions;
            j.finish = finish;
            j.ranIn = new ArrayList<>(ranIn);
            j.startedAt = new ArrayList<>(startedAt);
            j.allocation = allocation == null ? null : allocation.copy();
            return j;
        }
    }

    static final class State {
        int clock;
        boolean fair;
        List<Job> jobs = new ArrayList<>();
        List<Allocation> reservations = new ArrayList<>();
        List<int[]> events = new ArrayList<>();
        List<int[]> starts = new ArrayList<>();

        State copy() {
            State s = new State();
            s.clock = clock;
            s.fair = fair;
            for (Job job : jobs) {
                s.jobs.add(job.copy());
            }
            for (Allocation reservation : reservations) {
                s.reservations.add(reservation == null ? null : reservation.copy());
            }
            s.events.addAll(events);
            s.starts.addAll(starts);
            return s;
        }
    }

    private State s = new State();
    private State saved;
    private int refusal;

    private static void argument(boolean right) {
        if (!right) {
            throw new IllegalArgumentException();
        }
    }

    private static void inState(boolean right) {
        if (!right) {
            throw new IllegalStateException();
        }
    }

    private static void index(boolean right) {
        if (!right) {
            throw new IndexOutOfBoundsException();
        }
    }

    private static boolean in(int number, int least, int greatest) {
        return number >= least && number <= greatest;
    }

    private Job job(int number) {
        index(in(number, 0, s.jobs.size() - 1));
        return s.jobs.get(number);
    }

    private boolean blockFree(int order, int first, int from, int length) {
        for (int unit = from; unit < from + length; unit++) {
            for (int processor = first; processor < first + (1 << order); processor++) {
                if (ownerAt(processor, unit) != -1) {
                    return false;
                }
            }
        }
        return true;
    }

    private int lowest(int order, int from, int length) {
        for (int first = 0; first < 32; first++) {
            if (first % (1 << order) == 0 && blockFree(order, first, from, length)) {
                return first;
            }
        }
        return -1;
    }

    private Allocation findEarliest(int order, int length) {
        for (int from = s.clock; ; from++) {
            int first = lowest(order, from, length);
            if (first >= 0) {
                Allocation a = new Allocation();
                a.order = order;
                a.first = first;
                a.from = from;
                a.length = length;
                return a;
            }
        }
    }

    private void event(int kind, Job job) {
        s.events.add(new int[] {s.clock, kind, job.number});
        if (s.events.size() > 60) {
            s.events.remove(0);
        }
    }

    private void startJobs() {
        for (Job job : s.jobs) {
            if (job.state == 0 && job.allocation.from == s.clock) {
                job.state = 1;
                job.startedAt.add(s.clock);
                s.starts.add(new int[] {job.order, job.allocation.first});
                event(1, job);
            }
        }
    }

    private void replan() {
        List<Job> waiting = new ArrayList<>();
        int[] usages = {usage(0), usage(1), usage(2), usage(3)};
        for (Job job : s.jobs) {
            if (job.state == 0 && job.allocation != null) {
                waiting.add(job);
            }
        }
        boolean fair = s.fair;
        waiting.sort((a, b) -> {
            if (fair && usages[a.user] != usages[b.user]) {
                return Integer.compare(usages[a.user], usages[b.user]);
            }
            if (a.allocation.from != b.allocation.from) {
                return Integer.compare(a.allocation.from, b.allocation.from);
            }
            return Integer.compare(a.number, b.number);
        });
        for (Job job : waiting) {
            int before = job.allocation.from;
            job.allocation = null;
            job.allocation = findEarliest(job.order, job.estimate);
            if (job.allocation.from > before) {
                throw new AssertionError("a job is planned later than before");
            }
            if (job.allocation.from < before) {
                event(5, job);
            }
        }
    }

    int submit(int user, int order, int estimate, int run) {
        argument(in(user, 0, 3) && in(order, 0, 5) && in(estimate, 1, 40) && in(run, 1, estimate));
        inState(s.jobs.size() < 24);
        Job job = new Job();
        job.number = s.jobs.size();
        job.user = user;
        job.order = order;
        job.estimate = estimate;
        job.run = run;
        job.submittedRun = run;
        job.submitted = s.clock;
        job.allocation = findEarliest(order, estimate);
        job.promise = job.allocation.from;
        s.jobs.add(job);
        event(0, job);
        startJobs();
        return job.promise;
    }

    int advance(int ticks) {
        argument(in(ticks, 1, 50));
        inState(s.clock + ticks <= 1000);
        int finished = 0;
        for (int i = 0; i < ticks; i++) {
            finished += tick();
        }
        return finished;
    }

    private int tick() {
        for (Job job : s.jobs) {
            if (job.state == 1) {
                job.ranIn.add(s.clock);
            }
        }
        s.clock++;
        int finished = 0;
        for (Job job : s.jobs) {
            if (job.state == 1 && job.allocation.from + job.run == s.clock) {
                job.state = 2;
                job.allocation = null;
                job.finish = s.clock;
                event(2, job);
                finished++;
            }
        }
        if (finished > 0) {
            replan();
        }
        startJobs();
        return finished;
    }

    int cancel(int number) {
        Job job = job(number);
        inState(job.state < 2);
        int before = job.state;
        job.state = 3;
        job.allocation = null;
        event(3, job);
        replan();
        startJobs();
        return before;
    }

    int preempt(int number, int cost) {
        Job job = job(number);
        argument(in(cost, 0, 9));
        inState(job.state == 1);
        int units = s.clock - job.allocation.from;
        job.estimate = job.estimate - units + cost;
        job.run = job.run - units + cost;
        job.allocation = null;
        job.preemptions++;
        event(4, job);
        replan();
        job.state = 0;
        job.allocation = findEarliest(job.order, job.estimate);
        int start = job.allocation.from;
        startJobs();
        return start;
    }

    int reserve(int order, int from, int length) {
        argument(in(order, 0, 5) && in(from, 0, 1000) && in(length, 1, 40));
        int first = lowest(order, from, length);
        refusal = from < s.clock ? 1 : s.reservations.size() == 6 ? 2 : first < 0 ? 3 : 0;
        inState(refusal == 0);
        Allocation a = new Allocation();
        a.order = order;
        a.first = first;
        a.from = from;
        a.length = length;
        s.reservations.add(a);
        return s.reservations.size() - 1;
    }

    int refusal() {
        return refusal;
    }

    int cancelReservation(int number) {
        reservedProcessor(number);
        s.reservations.set(number, null);
        replan();
        startJobs();
        return 0;
    }

    int reservedProcessor(int number) {
        index(in(number, 0, s.reservations.size() - 1));
        inState(s.reservations.get(number) != null);
        return s.reservations.get(number).first;
    }

    boolean setFair(boolean on) {
        boolean before = s.fair;
        s.fair = on;
        return before;
    }

    int clock() {
        return s.clock;
    }

    int jobCount() {
        return s.jobs.size();
    }

    int state(int number) {
        return job(number).state;
    }

    int startTime(int number) {
        inState(job(number).allocation != null);
        return job(number).allocation.from;
    }

    int firstProcessor(int number) {
        inState(job(number).allocation != null);
        return job(number).allocation.first;
    }

    int promise(int number) {
        return job(number).promise;
    }

    int finishTime(int number) {
        inState(job(number).state == 2);
        return job(number).finish;
    }

    int preemptions(int number) {
        return job(number).preemptions;
    }

    int waitTime(int number) {
        inState(!job(number).startedAt.isEmpty());
        return job(number).startedAt.get(0) - job(number).submitted;
    }

    double averageWait() {
        double sum = 0;
        double number = 0;
        for (Job job : s.jobs) {
            if (!job.startedAt.isEmpty()) {
                sum += waitTime(job.number);
                number++;
            }
        }
        if (number == 0) {
            throw new ArithmeticException();
        }
        return sum / number;
    }

    float slowdown(int number) {
        return (float) (finishTime(number) - job(number).submitted) / (float) job(number).submittedRun;
    }

    int usage(int user) {
        index(in(user, 0, 3));
        int sum = 0;
        for (Job job : s.jobs) {
            sum += job.user == user ? job.ranIn.size() * (1 << job.order) : 0;
        }
        return sum;
    }

    double utilization() {
        if (s.clock == 0) {
            throw new ArithmeticException();
        }
        return (double) (usage(0) + usage(1) + usage(2) + usage(3)) / (double) (32 * s.clock);
    }

    int makespan() {
        int end = s.clock;
        for (Job job : s.jobs) {
            if (job.allocation != null) {
                end = Math.max(end, job.allocation.from + job.allocation.length);
            }
        }
        return end;
    }

    int ownerAt(int processor, int unit) {
        index(in(processor, 0, 31) && unit >= 0);
        int owner = -1;
        for (Job job : s.jobs) {
            if (job.allocation != null && job.allocation.covers(processor, unit)) {
                owner = single(owner, job.number);
            }
        }
        for (int i = 0; i < s.reservations.size(); i++) {
            if (s.reservations.get(i) != null && s.reservations.get(i).covers(processor, unit)) {
                owner = single(owner, 100 + i);
            }
        }
        return owner;
    }

    private static int single(int owner, int another) {
        if (owner != -1) {
            throw new AssertionError("two allocations meet");
        }
        return another;
    }

    int freeProcessors(int unit) {
        index(unit >= 0);
        int free = 0;
        for (int processor = 0; processor < 32; processor++) {
            free += ownerAt(processor, unit) == -1 ? 1 : 0;
        }
        return free;
    }

    int freeBlocks(int order) {
        index(in(order, 0, 5));
        int number = 0;
        for (int first = 0; first < 32; first += 1 << order) {
            boolean counts = blockFree(order, first, s.clock, 1);
            for (int larger = order + 1; larger <= 5; larger++) {
                counts &= !blockFree(larger, first - first % (1 << larger), s.clock, 1);
            }
            number += counts ? 1 : 0;
        }
        return number;
    }

    int largestFree() {
        int largest = -1;
        for (int order = 0; order <= 5; order++) {
            largest = lowest(order, s.clock, 1) >= 0 ? order : largest;
        }
        if (largest < 0) {
            throw new NoSuchElementException();
        }
        return largest;
    }

    double fragmentation() {
        return 1 - (double) (1 << largestFree()) / (double) freeProcessors(s.clock);
    }

    int earliestStart(int order, int length) {
        argument(in(order, 0, 5) && in(length, 1, 40));
        return findEarliest(order, length).from;
    }

    int lowestBlock(int order, int from, int length) {
        argument(in(order, 0, 5) && in(from, 0, 1000) && in(length, 1, 40));
        int first = lowest(order, from, length);
        if (first < 0) {
            throw new NoSuchElementException();
        }
        return first;
    }

    int blockStarts(int order, int processor) {
        argument(in(order, 0, 5) && in(processor, 0, 31) && processor % (1 << order) == 0);
        int number = 0;
        for (int[] start : s.starts) {
            number += start[0] == order && start[1] == processor ? 1 : 0;
        }
        return number;
    }

    int busiestBlock() {
        int best = -1;
        int most = 0;
        for (int order = 0; order <= 5; order++) {
            for (int first = 0; first < 32; first += 1 << order) {
                if (blockStarts(order, first) > most) {
                    most = blockStarts(order, first);
                    best = 100 * order + first;
                }
            }
        }
        if (best < 0) {
            throw new NoSuchElementException();
        }
        return best;
    }

    int eventCount() {
        return s.events.size();
    }

    int event(int index, int column) {
        index(in(index, 0, s.events.size() - 1) && in(column, 0, 2));
        return s.events.get(index)[column];
    }

    int save() {
        saved = s.copy();
        return 0;
    }

    int restore() {
        inState(saved != null);
        s = saved.copy();
        return s.clock;
    }
}
