import java.util.NoSuchElementException;

/**
 * A simulator of a cluster scheduler: gang scheduling in buddy blocks of processors, conservative
 * backfilling, advance reservations, preemption with checkpoints, and statistics.
 *
 * The outer class is the face: it looks at the arguments and throws. The classes inside hold the
 * state and take only arguments that the face has let through.
 */
public final class BuddyBlockScheduler {
    private static final int PROCESSORS = 32;
    private static final int MAX_ORDER = 5;
    private static final int USERS = 4;
    private static final int MAX_CLOCK = 1000;
    private static final int MAX_JOBS = 24;
    private static final int MAX_RESERVATIONS = 6;
    private static final int MAX_EVENTS = 60;
    private static final int MAX_LENGTH = 40;
    private static final int MAX_TICKS = 50;
    private static final int MAX_COST = 9;
    private static final int RESERVATION_OWNER = 100;
    private static final int ORDER_WEIGHT = 100;
    private static final int NONE = -1;

    private static final int WAITING = 0;
    private static final int RUNNING = 1;
    private static final int FINISHED = 2;
    private static final int CANCELLED = 3;
    // A preempted job while the others are replanned; no call ever answers it.
    private static final int SUSPENDED = 4;

    private static final int EVENT_SUBMITTED = 0;
    private static final int EVENT_STARTED = 1;
    private static final int EVENT_FINISHED = 2;
    private static final int EVENT_CANCELLED = 3;
    private static final int EVENT_PREEMPTED = 4;
    private static final int EVENT_MOVED = 5;

    private static final int COLUMN_TIME = 0;
    private static final int COLUMN_KIND = 1;
    private static final int COLUMN_JOB = 2;

    private static final int NOT_REFUSED = 0;
    private static final int REFUSED_PAST = 1;
    private static final int REFUSED_FULL = 2;
    private static final int REFUSED_NO_BLOCK = 3;

    private final Cluster cluster;
    private final Cluster kept;
    private boolean somethingKept;
    // Stands outside the cluster because save and restore leave it alone.
    private int refusalReason;

    public BuddyBlockScheduler() {
        cluster = new Cluster();
        kept = new Cluster();
        somethingKept = false;
        refusalReason = NOT_REFUSED;
    }

    public int submit(int user, int order, int estimate, int run)
            throws IllegalArgumentException, IllegalStateException {
        if (!isUser(user) || !isOrder(order) || !isLength(estimate) || run < 1 || run > estimate) {
            throw new IllegalArgumentException("a number is out of range");
        }
        if (cluster.jobs.count >= MAX_JOBS) {
            throw new IllegalStateException("there are 24 jobs");
        }
        return cluster.addJob(user, order, estimate, run);
    }

    public int advance(int ticks) throws IllegalArgumentException, IllegalStateException {
        if (ticks < 1 || ticks > MAX_TICKS) {
            throw new IllegalArgumentException("the number of ticks is out of range");
        }
        if (cluster.now + ticks > MAX_CLOCK) {
            throw new IllegalStateException("the clock would become greater than 1000");
        }
        int finished = 0;
        for (int i = 0; i < ticks; i++) {
            finished += cluster.tick();
        }
        return finished;
    }

    public int cancel(int job) throws IndexOutOfBoundsException, IllegalStateException {
        checkJob(job);
        checkAllocated(job);
        int before = cluster.jobs.status[job];
        cluster.dropJob(job);
        return before;
    }

    public int preempt(int job, int cost)
            throws IndexOutOfBoundsException, IllegalArgumentException, IllegalStateException {
        checkJob(job);
        if (cost < 0 || cost > MAX_COST) {
            throw new IllegalArgumentException("the cost is out of range");
        }
        if (cluster.jobs.status[job] != RUNNING) {
            throw new IllegalStateException("the job is not running");
        }
        return cluster.interrupt(job, cost);
    }

    public int reserve(int order, int from, int length)
            throws IllegalArgumentException, IllegalStateException {
        checkInterval(order, from, length);
        refusalReason = reasonToRefuse(order, from, length);
        if (refusalReason != NOT_REFUSED) {
            throw new IllegalStateException("the reservation is refused");
        }
        return cluster.addReservation(order, from, length);
    }

    public int refusal() {
        return refusalReason;
    }

    public void cancelReservation(int reservation)
            throws IndexOutOfBoundsException, IllegalStateException {
        checkReservation(reservation);
        cluster.dropReservation(reservation);
    }

    public int reservedProcessor(int reservation)
            throws IndexOutOfBoundsException, IllegalStateException {
        checkReservation(reservation);
        return cluster.timetable.first[MAX_JOBS + reservation];
    }

    public boolean setFair(boolean on) {
        boolean before = cluster.fair;
        cluster.fair = on;
        return before;
    }

    public int clock() {
        return cluster.now;
    }

    public int jobCount() {
        return cluster.jobs.count;
    }

    public int state(int job) throws IndexOutOfBoundsException {
        checkJob(job);
        return cluster.jobs.status[job];
    }

    public int startTime(int job) throws IndexOutOfBoundsException, IllegalStateException {
        checkJob(job);
        checkAllocated(job);
        return cluster.timetable.from[job];
    }

    public int firstProcessor(int job) throws IndexOutOfBoundsException, IllegalStateException {
        checkJob(job);
        checkAllocated(job);
        return cluster.timetable.first[job];
    }

    public int promise(int job) throws IndexOutOfBoundsException {
        checkJob(job);
        return cluster.jobs.promised[job];
    }

    public int finishTime(int job) throws IndexOutOfBoundsException, IllegalStateException {
        checkJob(job);
        checkFinished(job);
        return cluster.jobs.finishedAt[job];
    }

    public int preemptions(int job) throws IndexOutOfBoundsException {
        checkJob(job);
        return cluster.jobs.interruptions[job];
    }

    public int waitTime(int job) throws IndexOutOfBoundsException, IllegalStateException {
        checkJob(job);
        if (!cluster.jobs.wasStarted(job)) {
            throw new IllegalStateException("the job was never started");
        }
        return cluster.jobs.waited(job);
    }

    public double averageWait() throws ArithmeticException {
        int sum = 0;
        int number = 0;
        for (int job = 0; job < cluster.jobs.count; job++) {
            if (cluster.jobs.wasStarted(job)) {
                sum += cluster.jobs.waited(job);
                number++;
            }
        }
        if (number == 0) {
            throw new ArithmeticException("no job was started");
        }
        return (double) sum / (double) number;
    }

    public float slowdown(int job) throws IndexOutOfBoundsException, IllegalStateException {
        checkJob(job);
        checkFinished(job);
        int stay = cluster.jobs.finishedAt[job] - cluster.jobs.submittedAt[job];
        return (float) stay / (float) cluster.jobs.submittedRun[job];
    }

    public int usage(int user) throws IndexOutOfBoundsException {
        if (!isUser(user)) {
            throw new IndexOutOfBoundsException("there is no such user");
        }
        return cluster.usageOfUser(user);
    }

    public double utilization() throws ArithmeticException {
        if (cluster.now == 0) {
            throw new ArithmeticException("the clock is 0");
        }
        int sum = 0;
        for (int user = 0; user < USERS; user++) {
            sum += cluster.usageOfUser(user);
        }
        return (double) sum / (double) (PROCESSORS * cluster.now);
    }

    public int makespan() {
        return Math.max(cluster.now, cluster.timetable.endOfJobs());
    }

    public int ownerAt(int processor, int unit) throws IndexOutOfBoundsException {
        if (processor < 0 || processor >= PROCESSORS || unit < 0) {
            throw new IndexOutOfBoundsException("there is no such processor or unit");
        }
        int slot = cluster.timetable.slotAt(processor, unit);
        if (slot == NONE) {
            return NONE;
        }
        return slot < MAX_JOBS ? slot : RESERVATION_OWNER + slot - MAX_JOBS;
    }

    public int freeProcessors(int unit) throws IndexOutOfBoundsException {
        if (unit < 0) {
            throw new IndexOutOfBoundsException("the unit is negative");
        }
        return PROCESSORS - Integer.bitCount(cluster.timetable.takenIn(unit, unit));
    }

    public int freeBlocks(int order) throws IndexOutOfBoundsException {
        if (!isOrder(order)) {
            throw new IndexOutOfBoundsException("there is no such order");
        }
        int taken = takenNow();
        int number = 0;
        for (int i = 0; i < PROCESSORS >> order; i++) {
            // Half of the number names the block of the next order that contains this one.
            boolean insideLarger = order < MAX_ORDER && isClear(taken, order + 1, i >> 1);
            if (isClear(taken, order, i) && !insideLarger) {
                number++;
            }
        }
        return number;
    }

    public int largestFree() throws NoSuchElementException {
        int order = largestClearOrder(takenNow());
        if (order == NONE) {
            throw new NoSuchElementException("no processor is free");
        }
        return order;
    }

    public double fragmentation() throws NoSuchElementException {
        int taken = takenNow();
        int order = largestClearOrder(taken);
        int free = PROCESSORS - Integer.bitCount(taken);
        if (order == NONE || free == 0) {
            throw new NoSuchElementException("no processor is free");
        }
        return 1.0 - (double) (1 << order) / (double) free;
    }

    public int earliestStart(int order, int length) throws IllegalArgumentException {
        if (!isOrder(order) || !isLength(length)) {
            throw new IllegalArgumentException("a number is out of range");
        }
        return cluster.timetable.earliest(order, cluster.now, length);
    }

    public int lowestBlock(int order, int from, int length)
            throws IllegalArgumentException, NoSuchElementException {
        checkInterval(order, from, length);
        int first = cluster.timetable.lowestFree(order, from, length);
        if (first == NONE) {
            throw new NoSuchElementException("no block of this order is free in the interval");
        }
        return first;
    }

    public int blockStarts(int order, int processor) throws IllegalArgumentException {
        if (!isBlock(order, processor)) {
            throw new IllegalArgumentException("there is no such block");
        }
        return cluster.starts[blockIndex(order, processor)];
    }

    public int busiestBlock() throws NoSuchElementException {
        int most = 0;
        int busiest = NONE;
        for (int order = 0; order <= MAX_ORDER; order++) {
            for (int i = 0; i < PROCESSORS >> order; i++) {
                int first = i << order;
                int number = cluster.starts[blockIndex(order, first)];
                if (number > most) {
                    most = number;
                    busiest = ORDER_WEIGHT * order + first;
                }
            }
        }
        if (busiest == NONE) {
            throw new NoSuchElementException("no job was started");
        }
        return busiest;
    }

    public int eventCount() {
        return cluster.log.count;
    }

    public int event(int index, int column) throws IndexOutOfBoundsException {
        if (index < 0 || index >= cluster.log.count || column < COLUMN_TIME || column > COLUMN_JOB) {
            throw new IndexOutOfBoundsException("there is no such event or column");
        }
        return cluster.log.entry(index, column);
    }

    public void save() {
        kept.copyFrom(cluster);
        somethingKept = true;
    }

    public int restore() throws IllegalStateException {
        if (!somethingKept) {
            throw new IllegalStateException("nothing was saved");
        }
        cluster.copyFrom(kept);
        return cluster.now;
    }

    private void checkJob(int job) {
        if (job < 0 || job >= cluster.jobs.count) {
            throw new IndexOutOfBoundsException("there is no such job");
        }
    }

    private void checkAllocated(int job) {
        int status = cluster.jobs.status[job];
        if (status != WAITING && status != RUNNING) {
            throw new IllegalStateException("the job is neither waiting nor running");
        }
    }

    private void checkFinished(int job) {
        if (cluster.jobs.status[job] != FINISHED) {
            throw new IllegalStateException("the job is not finished");
        }
    }

    private void checkReservation(int reservation) {
        if (reservation < 0 || reservation >= cluster.reservationCount) {
            throw new IndexOutOfBoundsException("there is no such reservation");
        }
        if (!cluster.timetable.isUsed(MAX_JOBS + reservation)) {
            throw new IllegalStateException("the reservation is cancelled");
        }
    }

    private static void checkInterval(int order, int from, int length) {
        if (!isOrder(order) || from < 0 || from > MAX_CLOCK || !isLength(length)) {
            throw new IllegalArgumentException("a number is out of range");
        }
    }

    private int reasonToRefuse(int order, int from, int length) {
        if (from < cluster.now) {
            return REFUSED_PAST;
        }
        if (cluster.reservationCount >= MAX_RESERVATIONS) {
            return REFUSED_FULL;
        }
        if (cluster.timetable.lowestFree(order, from, length) == NONE) {
            return REFUSED_NO_BLOCK;
        }
        return NOT_REFUSED;
    }

    private int takenNow() {
        return cluster.timetable.takenIn(cluster.now, cluster.now);
    }

    private static boolean isUser(int user) {
        return user >= 0 && user < USERS;
    }

    private static boolean isOrder(int order) {
        return order >= 0 && order <= MAX_ORDER;
    }

    private static boolean isLength(int length) {
        return length >= 1 && length <= MAX_LENGTH;
    }

    private static boolean isBlock(int order, int first) {
        return isOrder(order) && first >= 0 && first < PROCESSORS && (first & ((1 << order) - 1)) == 0;
    }

    /** The processors of a block as bits, processor p at bit p. */
    private static int blockMask(int order, int first) {
        return (-1 >>> (PROCESSORS - (1 << order))) << first;
    }

    /** A number of its own for each block, 1 to 63: the blocks as a tree in an array. */
    private static int blockIndex(int order, int first) {
        return (PROCESSORS + first) >> order;
    }

    /** Whether the i-th block of an order, counted from 0, has none of the taken processors. */
    private static boolean isClear(int taken, int order, int i) {
        return (taken & blockMask(order, i << order)) == 0;
    }

    private static int lowestClear(int taken, int order) {
        int lowest = blockMask(order, 0);
        for (int i = 0; i < PROCESSORS >> order; i++) {
            int first = i << order;
            if ((taken & (lowest << first)) == 0) {
                return first;
            }
        }
        return NONE;
    }

    private static int largestClearOrder(int taken) {
        for (int order = MAX_ORDER; order >= 0; order--) {
            if (lowestClear(taken, order) != NONE) {
                return order;
            }
        }
        return NONE;
    }

    /** The allocations: a slot for each job, by its number, and behind them one for each reservation. */
    private static final class Timetable {
        static final int SLOTS = MAX_JOBS + MAX_RESERVATIONS;

        // An empty slot has the mask 0, so that it never meets anything.
        final int[] mask = new int[SLOTS];
        final int[] first = new int[SLOTS];
        final int[] from = new int[SLOTS];
        // The first unit behind the interval.
        final int[] until = new int[SLOTS];

        void give(int slot, int order, int processor, int start, int length) {
            mask[slot] = blockMask(order, processor);
            first[slot] = processor;
            from[slot] = start;
            until[slot] = start + length;
        }

        void clearSlot(int slot) {
            mask[slot] = 0;
        }

        boolean isUsed(int slot) {
            return mask[slot] != 0;
        }

        /** The interval goes to its last unit, not behind it: the last unit may be the greatest int. */
        int takenIn(int firstUnit, int lastUnit) {
            int taken = 0;
            for (int slot = 0; slot < SLOTS; slot++) {
                if (from[slot] <= lastUnit && until[slot] > firstUnit) {
                    taken |= mask[slot];
                }
            }
            return taken;
        }

        int lowestFree(int order, int start, int length) {
            return lowestClear(takenIn(start, start + length - 1), order);
        }

        /** Tries the clock and the ends of allocations alone: at no other unit does a block become free. */
        int earliest(int order, int clock, int length) {
            int start = clock;
            for (int tries = 0; tries < SLOTS; tries++) {
                int taken = takenIn(start, start + length - 1);
                if (lowestClear(taken, order) != NONE) {
                    return start;
                }
                start = nextEnd(start);
            }
            // There was an end for each slot: behind the last of them all is free.
            return start;
        }

        private int nextEnd(int unit) {
            int next = unit;
            for (int slot = 0; slot < SLOTS; slot++) {
                if (mask[slot] != 0 && until[slot] > unit && (next == unit || until[slot] < next)) {
                    next = until[slot];
                }
            }
            return next;
        }

        int slotAt(int processor, int unit) {
            for (int slot = 0; slot < SLOTS; slot++) {
                boolean covers = from[slot] <= unit && unit < until[slot];
                if (covers && ((mask[slot] >>> processor) & 1) != 0) {
                    return slot;
                }
            }
            return NONE;
        }

        int endOfJobs() {
            int end = 0;
            for (int slot = 0; slot < MAX_JOBS; slot++) {
                if (mask[slot] != 0) {
                    end = Math.max(end, until[slot]);
                }
            }
            return end;
        }

        void copyFrom(Timetable other) {
            System.arraycopy(other.mask, 0, mask, 0, SLOTS);
            System.arraycopy(other.first, 0, first, 0, SLOTS);
            System.arraycopy(other.from, 0, from, 0, SLOTS);
            System.arraycopy(other.until, 0, until, 0, SLOTS);
        }
    }

    /** What is known of each job beside its allocation. */
    private static final class Jobs {
        int count = 0;
        final int[] user = new int[MAX_JOBS];
        final int[] order = new int[MAX_JOBS];
        final int[] estimate = new int[MAX_JOBS];
        final int[] run = new int[MAX_JOBS];
        final int[] status = new int[MAX_JOBS];
        final int[] submittedRun = new int[MAX_JOBS];
        final int[] submittedAt = new int[MAX_JOBS];
        final int[] promised = new int[MAX_JOBS];
        final int[] firstStartedAt = new int[MAX_JOBS];
        final int[] finishedAt = new int[MAX_JOBS];
        final int[] interruptions = new int[MAX_JOBS];
        // The units of the runs that have ended; a run that goes on is not in it.
        final int[] unitsRun = new int[MAX_JOBS];

        boolean wasStarted(int job) {
            return firstStartedAt[job] != NONE;
        }

        int waited(int job) {
            return firstStartedAt[job] - submittedAt[job];
        }

        /** Sets every field of the new job, so that it does not matter what its row held before. */
        int append(int itsUser, int itsOrder, int itsEstimate, int itsRun, int clock) {
            int job = count;
            user[job] = itsUser;
            order[job] = itsOrder;
            estimate[job] = itsEstimate;
            run[job] = itsRun;
            status[job] = WAITING;
            submittedRun[job] = itsRun;
            submittedAt[job] = clock;
            promised[job] = NONE;
            firstStartedAt[job] = NONE;
            finishedAt[job] = NONE;
            interruptions[job] = 0;
            unitsRun[job] = 0;
            count++;
            return job;
        }

        void copyFrom(Jobs other) {
            count = other.count;
            System.arraycopy(other.user, 0, user, 0, MAX_JOBS);
            System.arraycopy(other.order, 0, order, 0, MAX_JOBS);
            System.arraycopy(other.estimate, 0, estimate, 0, MAX_JOBS);
            System.arraycopy(other.run, 0, run, 0, MAX_JOBS);
            System.arraycopy(other.status, 0, status, 0, MAX_JOBS);
            System.arraycopy(other.submittedRun, 0, submittedRun, 0, MAX_JOBS);
            System.arraycopy(other.submittedAt, 0, submittedAt, 0, MAX_JOBS);
            System.arraycopy(other.promised, 0, promised, 0, MAX_JOBS);
            System.arraycopy(other.firstStartedAt, 0, firstStartedAt, 0, MAX_JOBS);
            System.arraycopy(other.finishedAt, 0, finishedAt, 0, MAX_JOBS);
            System.arraycopy(other.interruptions, 0, interruptions, 0, MAX_JOBS);
            System.arraycopy(other.unitsRun, 0, unitsRun, 0, MAX_JOBS);
        }
    }

    /** The latest events, in a ring. */
    private static final class EventLog {
        int count = 0;
        private int oldest = 0;
        private final int[] time = new int[MAX_EVENTS];
        private final int[] kind = new int[MAX_EVENTS];
        private final int[] job = new int[MAX_EVENTS];

        void note(int itsTime, int itsKind, int itsJob) {
            int at = (oldest + count) % MAX_EVENTS;
            time[at] = itsTime;
            kind[at] = itsKind;
            job[at] = itsJob;
            if (count < MAX_EVENTS) {
                count++;
            } else {
                oldest = (oldest + 1) % MAX_EVENTS;
            }
        }

        int entry(int index, int column) {
            int at = (oldest + index) % MAX_EVENTS;
            if (column == COLUMN_TIME) {
                return time[at];
            }
            return column == COLUMN_KIND ? kind[at] : job[at];
        }

        void copyFrom(EventLog other) {
            count = other.count;
            oldest = other.oldest;
            System.arraycopy(other.time, 0, time, 0, MAX_EVENTS);
            System.arraycopy(other.kind, 0, kind, 0, MAX_EVENTS);
            System.arraycopy(other.job, 0, job, 0, MAX_EVENTS);
        }
    }

    /** The whole state that save keeps, and the rules by which it changes. */
    private static final class Cluster {
        final Timetable timetable = new Timetable();
        final Jobs jobs = new Jobs();
        final EventLog log = new EventLog();
        final int[] starts = new int[2 * PROCESSORS];
        int now = 0;
        int reservationCount = 0;
        boolean fair = false;
        // Rows for replan alone, made once so that no call makes objects.
        private final int[] queue = new int[MAX_JOBS];
        private final int[] usageBefore = new int[USERS];

        int addJob(int user, int order, int estimate, int run) {
            int job = jobs.append(user, order, estimate, run, now);
            log.note(now, EVENT_SUBMITTED, job);
            jobs.promised[job] = plan(job);
            startJobs();
            return jobs.promised[job];
        }

        void dropJob(int job) {
            endRun(job, CANCELLED);
            timetable.clearSlot(job);
            log.note(now, EVENT_CANCELLED, job);
            replan();
            startJobs();
        }

        int interrupt(int job, int cost) {
            int change = cost - (now - timetable.from[job]);
            jobs.estimate[job] += change;
            jobs.run[job] += change;
            jobs.interruptions[job]++;
            endRun(job, SUSPENDED);
            timetable.clearSlot(job);
            log.note(now, EVENT_PREEMPTED, job);
            replan();
            jobs.status[job] = WAITING;
            int start = plan(job);
            startJobs();
            return start;
        }

        int addReservation(int order, int start, int length) {
            int reservation = reservationCount;
            int first = timetable.lowestFree(order, start, length);
            timetable.give(MAX_JOBS + reservation, order, first, start, length);
            reservationCount++;
            return reservation;
        }

        void dropReservation(int reservation) {
            timetable.clearSlot(MAX_JOBS + reservation);
            replan();
            startJobs();
        }

        int tick() {
            now++;
            int finished = finishJobs();
            if (finished > 0) {
                replan();
            }
            startJobs();
            return finished;
        }

        private int finishJobs() {
            int finished = 0;
            for (int job = 0; job < jobs.count; job++) {
                if (jobs.status[job] == RUNNING && now - timetable.from[job] == jobs.run[job]) {
                    endRun(job, FINISHED);
                    timetable.clearSlot(job);
                    jobs.finishedAt[job] = now;
                    log.note(now, EVENT_FINISHED, job);
                    finished++;
                }
            }
            return finished;
        }

        private void startJobs() {
            for (int job = 0; job < jobs.count; job++) {
                if (jobs.status[job] == WAITING && timetable.from[job] == now) {
                    jobs.status[job] = RUNNING;
                    if (!jobs.wasStarted(job)) {
                        jobs.firstStartedAt[job] = now;
                    }
                    starts[blockIndex(jobs.order[job], timetable.first[job])]++;
                    log.note(now, EVENT_STARTED, job);
                }
            }
        }

        /** The units are counted while the status still says whether the job was running. */
        private void endRun(int job, int newStatus) {
            jobs.unitsRun[job] = unitsUpToNow(job);
            jobs.status[job] = newStatus;
        }

        private int unitsUpToNow(int job) {
            int current = jobs.status[job] == RUNNING ? now - timetable.from[job] : 0;
            return jobs.unitsRun[job] + current;
        }

        int usageOfUser(int user) {
            int sum = 0;
            for (int job = 0; job < jobs.count; job++) {
                if (jobs.user[job] == user) {
                    sum += unitsUpToNow(job) << jobs.order[job];
                }
            }
            return sum;
        }

        /** Gives a job without an allocation the earliest one, and answers its start. */
        private int plan(int job) {
            int order = jobs.order[job];
            int length = jobs.estimate[job];
            int start = timetable.earliest(order, now, length);
            timetable.give(job, order, timetable.lowestFree(order, start, length), start, length);
            return start;
        }

        private void replan() {
            int waiting = queueWaiting();
            for (int i = 0; i < waiting; i++) {
                int job = queue[i];
                int before = timetable.from[job];
                timetable.clearSlot(job);
                if (plan(job) < before) {
                    log.note(now, EVENT_MOVED, job);
                }
            }
        }

        /** The whole order is settled before the first job moves, as the planned starts before count. */
        private int queueWaiting() {
            for (int user = 0; user < USERS; user++) {
                usageBefore[user] = fair ? usageOfUser(user) : 0;
            }
            int length = 0;
            for (int job = 0; job < jobs.count; job++) {
                if (jobs.status[job] == WAITING) {
                    insertIntoQueue(job, length);
                    length++;
                }
            }
            return length;
        }

        /** Jobs come by number, and an equal one is not passed: so the number decides last. */
        private void insertIntoQueue(int job, int length) {
            int at = length;
            while (at > 0 && goesBefore(job, queue[at - 1])) {
                queue[at] = queue[at - 1];
                at--;
            }
            queue[at] = job;
        }

        private boolean goesBefore(int job, int other) {
            int usage = usageBefore[jobs.user[job]];
            int otherUsage = usageBefore[jobs.user[other]];
            if (usage != otherUsage) {
                return usage < otherUsage;
            }
            return timetable.from[job] < timetable.from[other];
        }

        void copyFrom(Cluster other) {
            timetable.copyFrom(other.timetable);
            jobs.copyFrom(other.jobs);
            log.copyFrom(other.log);
            System.arraycopy(other.starts, 0, starts, 0, starts.length);
            now = other.now;
            reservationCount = other.reservationCount;
            fair = other.fair;
        }
    }
}
