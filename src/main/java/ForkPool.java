import java.util.ArrayList;
import java.util.NoSuchElementException;

/**
 * A pool of workers with queues that fork, join and steal tasks step by step,
 * and the work done on it: reductions, scans, sorts and maps over arrays of
 * several types.
 */
public final class ForkPool {
    private static final int ARRAYS = 4;
    private static final int LONGEST = 24;
    private static final int MOST_JOBS = 12;
    private static final int MOST_WORKERS = 4;
    private static final int MOST_STEPS = 60;
    private static final int FIRST_GRAIN = 4;
    private static final int FARTHEST_NUMBER = 1000;
    // While a job runs, each step does a task, and no four jobs have a thousand: never met.
    private static final int JOIN_BOUND = 1_000_000;

    private static final int BYTE = 0;
    private static final int SHORT = 1;
    private static final int INT = 2;
    private static final int LONG = 3;
    private static final int FLOAT = 4;
    private static final int DOUBLE = 5;
    private static final long EIGHTHS_IN_ONE = 8;
    private static final long FARTHEST_EIGHTHS = 65536 * EIGHTHS_IN_ONE;

    private static final int SUM = 0;
    private static final int GREATEST = 1;
    private static final int SCAN = 2;
    private static final int SORT = 3;
    private static final int MAP = 4;
    private static final int SHARE = 5;

    private static final int RUNNING = 0;
    private static final int DONE = 1;
    private static final int FAILED = 2;
    private static final int NO_FAILURE = -1;

    private final Row[] rows;
    private final Worker[] workers;
    private final Job[] jobs;
    private int jobsBegun;
    private int stepsMade;
    private int nextWorker;
    private int grain;

    public ForkPool(int workers) {
        rows = new Row[ARRAYS];
        for (int i = 0; i < ARRAYS; i++) {
            rows[i] = new Row();
        }
        this.workers = new Worker[Math.max(1, Math.min(MOST_WORKERS, workers))];
        for (int i = 0; i < this.workers.length; i++) {
            this.workers[i] = new Worker(i);
        }
        jobs = new Job[MOST_JOBS];
        grain = FIRST_GRAIN;
    }

    public int array(int array, int type, int length) throws IllegalArgumentException, IllegalStateException {
        if (!isWithin(array, 0, ARRAYS - 1) || !isWithin(type, BYTE, DOUBLE) || !isWithin(length, 1, LONGEST)) {
            throw new IllegalArgumentException("array, type or length out of range");
        }
        refuseIfBusy(rows[array]);
        rows[array].make(type, length);
        return length;
    }

    public long set(int array, int index, long value) throws NoSuchElementException, IllegalStateException {
        Row row = rowWith(array, index);
        refuseIfBusy(row);
        row.elements[index] = row.kept(value);
        return row.elements[index];
    }

    public long get(int array, int index) throws NoSuchElementException {
        return rowWith(array, index).elements[index];
    }

    public int begin(int kind, int array, int worker, int c, int d)
            throws NoSuchElementException, IllegalArgumentException, IllegalStateException {
        Row row = madeRow(array);
        if (!isWithin(kind, SUM, SHARE) || !isWithin(worker, 0, workers.length - 1)) {
            throw new IllegalArgumentException("kind or worker out of range");
        }
        if (!isWithin(c, -FARTHEST_NUMBER, FARTHEST_NUMBER) || !isWithin(d, -FARTHEST_NUMBER, FARTHEST_NUMBER)) {
            throw new IllegalArgumentException("c or d out of range");
        }
        refuseIfBusy(row);
        if (jobsBegun >= MOST_JOBS) {
            throw new IllegalStateException("all jobs were begun");
        }
        Job begun = new Job(jobsBegun, kind, row, c, d);
        jobs[jobsBegun] = begun;
        jobsBegun++;
        workers[worker].putOnTop(new Task(begun, null, 0, row.length));
        return begun.number;
    }

    public int step(int n) throws IllegalArgumentException {
        if (!isWithin(n, 1, MOST_STEPS)) {
            throw new IllegalArgumentException("number of steps out of range");
        }
        int busySteps = 0;
        for (int i = 0; i < n; i++) {
            if (makeStep()) {
                busySteps++;
            }
        }
        return busySteps;
    }

    public int join(int job) throws NoSuchElementException, ArithmeticException {
        Job joined = begunJob(job);
        int steps = 0;
        while (joined.state == RUNNING && steps < JOIN_BOUND) {
            makeStep();
            steps++;
        }
        if (joined.state == FAILED) {
            throw new ArithmeticException("the job has failed");
        }
        return steps;
    }

    public long result(int job)
            throws NoSuchElementException, UnsupportedOperationException, IllegalStateException {
        Job asked = begunJob(job);
        if (asked.kind != SUM && asked.kind != GREATEST) {
            throw new UnsupportedOperationException("a job of this kind has no result");
        }
        if (asked.state != DONE) {
            throw new IllegalStateException("the job is not done");
        }
        return asked.result;
    }

    public int cancel(int job) throws NoSuchElementException, IllegalStateException {
        Job cancelled = begunJob(job);
        if (cancelled.state != RUNNING) {
            throw new IllegalStateException("the job has ended");
        }
        int queued = queuedTasks(cancelled);
        fail(cancelled, NO_FAILURE);
        return queued;
    }

    public int job(int job, int what) throws NoSuchElementException, IllegalArgumentException {
        Job asked = begunJob(job);
        switch (what) {
            case 0: return asked.state;
            case 1: return asked.failedAt;
            case 2: return asked.tasksDone;
            case 3: return queuedTasks(asked);
            case 4: return asked.kind;
            default: throw new IllegalArgumentException("no such fact of a job");
        }
    }

    public int task(int worker, int k, int what) throws NoSuchElementException, IllegalArgumentException {
        Worker owner = workerAt(worker);
        if (!isWithin(k, 0, owner.queueLength() - 1)) {
            throw new NoSuchElementException("no such task");
        }
        Task asked = owner.fromTop(k);
        switch (what) {
            case 0: return asked.job.number;
            case 1: return asked.from;
            case 2: return asked.to;
            default: throw new IllegalArgumentException("no such fact of a task");
        }
    }

    public int worker(int worker, int what) throws NoSuchElementException, IllegalArgumentException {
        Worker asked = workerAt(worker);
        switch (what) {
            case 0: return asked.queueLength();
            case 1: return asked.tasksDone;
            case 2: return asked.tasksStolen;
            case 3: return asked.idleSteps;
            case 4: return asked.victim;
            default: throw new IllegalArgumentException("no such fact of a worker");
        }
    }

    public int grain(int grain) throws IllegalArgumentException {
        if (!isWithin(grain, 1, LONGEST)) {
            throw new IllegalArgumentException("grain out of range");
        }
        int before = this.grain;
        this.grain = grain;
        return before;
    }

    public int count(int what) throws IllegalArgumentException {
        switch (what) {
            case 0: return jobsBegun;
            case 1: return stepsMade;
            case 2: return nextWorker;
            case 3: return workers.length;
            default: throw new IllegalArgumentException("no such count");
        }
    }

    private static boolean isWithin(int number, int least, int most) {
        return number >= least && number <= most;
    }

    private Row madeRow(int number) {
        if (!isWithin(number, 0, ARRAYS - 1) || rows[number].length == 0) {
            throw new NoSuchElementException("no such array");
        }
        return rows[number];
    }

    private Row rowWith(int number, int index) {
        Row row = madeRow(number);
        if (!isWithin(index, 0, row.length - 1)) {
            throw new NoSuchElementException("no such element");
        }
        return row;
    }

    private void refuseIfBusy(Row row) {
        for (int i = 0; i < jobsBegun; i++) {
            if (jobs[i].row == row && jobs[i].state == RUNNING) {
                throw new IllegalStateException("a job on the array is running");
            }
        }
    }

    private Job begunJob(int number) {
        if (!isWithin(number, 0, jobsBegun - 1)) {
            throw new NoSuchElementException("no such job");
        }
        return jobs[number];
    }

    private Worker workerAt(int number) {
        if (!isWithin(number, 0, workers.length - 1)) {
            throw new NoSuchElementException("no such worker");
        }
        return workers[number];
    }

    /** One worker's turn; answers whether it was not idle. */
    private boolean makeStep() {
        Worker worker = workers[nextWorker];
        nextWorker = (nextWorker + 1) % workers.length;
        stepsMade++;
        if (worker.queueLength() > 0) {
            perform(worker.takeTop(), worker);
            return true;
        }
        Worker victim = findVictim(worker);
        if (victim == null) {
            worker.idleSteps++;
            return false;
        }
        worker.tasksStolen++;
        perform(victim.takeBottom(), worker);
        return true;
    }

    /** The worker that the thief is to steal from, from then on its victim, or null if all queues are empty. */
    private Worker findVictim(Worker thief) {
        for (int i = 1; i <= workers.length; i++) {
            int candidate = (thief.victim + i) % workers.length;
            if (workers[candidate].queueLength() > 0) {
                thief.victim = candidate;
                return workers[candidate];
            }
        }
        return null;
    }

    private void perform(Task task, Worker worker) {
        worker.tasksDone++;
        task.job.tasksDone++;
        if (mustFork(task)) {
            task.fork();
            worker.putOnTop(task.second);
            worker.putOnTop(task.first);
            return;
        }
        int failedAt = task.job.doLeaf(task);
        if (failedAt == NO_FAILURE) {
            endTask(task, worker);
        } else {
            fail(task.job, failedAt);
        }
    }

    private boolean mustFork(Task task) {
        if (task.job.inSecondRound) {
            return task.hasForked();
        }
        return task.to - task.from > grain;
    }

    /** A task that is over may be the last part of the one above it, and that one of the next. */
    private void endTask(Task task, Worker worker) {
        Task over = task;
        while (over.parent != null) {
            over = over.parent;
            over.openParts--;
            if (over.openParts > 0) {
                return;
            }
            over.job.joinParts(over);
        }
        endRound(over, worker);
    }

    private void endRound(Task whole, Worker worker) {
        Job job = whole.job;
        if (job.kind == SCAN && !job.inSecondRound) {
            job.inSecondRound = true;
            worker.putOnTop(whole);
            return;
        }
        job.result = whole.result;
        job.state = DONE;
    }

    private void fail(Job job, int failedAt) {
        job.state = FAILED;
        job.failedAt = failedAt;
        for (int i = 0; i < workers.length; i++) {
            workers[i].dropTasks(job);
        }
    }

    private int queuedTasks(Job job) {
        int queued = 0;
        for (int i = 0; i < workers.length; i++) {
            queued += workers[i].queuedTasks(job);
        }
        return queued;
    }

    /** An array of the document; it is not there while its length is 0. */
    private static final class Row {
        private final long[] elements = new long[LONGEST];
        private int type;
        private int length;

        void make(int newType, int newLength) {
            type = newType;
            length = newLength;
            for (int i = 0; i < LONGEST; i++) {
                elements[i] = 0;
            }
        }

        boolean isInEighths() {
            return type >= FLOAT;
        }

        /** What an element becomes when the value, in eighths for float and double, is put into it. */
        long kept(long value) {
            switch (type) {
                case BYTE: return (byte) value;
                case SHORT: return (short) value;
                case INT: return (int) value;
                case LONG: return value;
                default: return Math.max(-FARTHEST_EIGHTHS, Math.min(FARTHEST_EIGHTHS, value));
            }
        }

        long sumOf(int from, int to) {
            long sum = 0;
            for (int i = from; i < to; i++) {
                sum = kept(sum + elements[i]);
            }
            return sum;
        }

        long greatestOf(int from, int to) {
            long greatest = elements[from];
            for (int i = from + 1; i < to; i++) {
                greatest = Math.max(greatest, elements[i]);
            }
            return greatest;
        }

        void addUp(int from, int to, long base) {
            long sum = base;
            for (int i = from; i < to; i++) {
                sum = kept(sum + elements[i]);
                elements[i] = sum;
            }
        }

        void putInOrder(int from, int to) {
            for (int i = from + 1; i < to; i++) {
                long moved = elements[i];
                int place = i;
                while (place > from && elements[place - 1] > moved) {
                    elements[place] = elements[place - 1];
                    place--;
                }
                elements[place] = moved;
            }
        }

        void mapAll(int from, int to, long c, long d) {
            long added = isInEighths() ? d * EIGHTHS_IN_ONE : d;
            for (int i = from; i < to; i++) {
                elements[i] = kept(c * elements[i] + added);
            }
        }

        /** Divides c by the elements, up to the first 0; answers the index of that one, or NO_FAILURE. */
        int shareAll(int from, int to, long c) {
            // Eight twice: once since the divisor stands in eighths, once since the quotient shall.
            long cForEighths = c * EIGHTHS_IN_ONE * EIGHTHS_IN_ONE;
            for (int i = from; i < to; i++) {
                long divisor = elements[i];
                if (divisor == 0) {
                    return i;
                }
                elements[i] = kept(isInEighths() ? Math.floorDiv(cForEighths, divisor) : c / divisor);
            }
            return NO_FAILURE;
        }
    }

    private static final class Job {
        private final int number;
        private final int kind;
        private final Row row;
        private final int c;
        private final int d;
        private int state = RUNNING;
        private int failedAt = NO_FAILURE;
        private int tasksDone;
        private boolean inSecondRound;
        private long result;

        Job(int number, int kind, Row row, int c, int d) {
            this.number = number;
            this.kind = kind;
            this.row = row;
            this.c = c;
            this.d = d;
        }

        /** Does the work of a task that does not fork; answers the index of a failure, or NO_FAILURE. */
        int doLeaf(Task leaf) {
            switch (kind) {
                case SUM:
                    leaf.result = row.sumOf(leaf.from, leaf.to);
                    return NO_FAILURE;
                case GREATEST:
                    leaf.result = row.greatestOf(leaf.from, leaf.to);
                    return NO_FAILURE;
                case SCAN:
                    if (inSecondRound) {
                        row.addUp(leaf.from, leaf.to, leaf.base);
                    } else {
                        leaf.result = row.sumOf(leaf.from, leaf.to);
                    }
                    return NO_FAILURE;
                case SORT:
                    row.putInOrder(leaf.from, leaf.to);
                    return NO_FAILURE;
                case MAP:
                    row.mapAll(leaf.from, leaf.to, c, d);
                    return NO_FAILURE;
                default:
                    return row.shareAll(leaf.from, leaf.to, c);
            }
        }

        // MAP and SHARE have no result: what their tasks are given here is nowhere read.
        void joinParts(Task task) {
            if (kind == SORT) {
                row.putInOrder(task.from, task.to);
            } else if (task.hasForked()) {
                long first = task.first.result;
                long second = task.second.result;
                task.result = kind == GREATEST ? Math.max(first, second) : row.kept(first + second);
            }
        }
    }

    /** A task for from .. to - 1; a SCAN does the same tasks again in its second round. */
    private static final class Task {
        private final Job job;
        private final Task parent;
        private final int from;
        private final int to;
        private Task first;
        private Task second;
        private int openParts;
        private long result;
        private long base;

        Task(Job job, Task parent, int from, int to) {
            this.job = job;
            this.parent = parent;
            this.from = from;
            this.to = to;
        }

        boolean hasForked() {
            return first != null && second != null;
        }

        void fork() {
            if (hasForked()) {
                first.base = base;
                second.base = job.row.kept(base + first.result);
            } else {
                int middle = (from + to) / 2;
                first = new Task(job, this, from, middle);
                second = new Task(job, this, middle, to);
            }
            openParts = 2;
        }
    }

    private static final class Worker {
        // The bottom comes first and the top last, so that the top is where a list grows.
        private final ArrayList<Task> queue = new ArrayList<>();
        private int tasksDone;
        private int tasksStolen;
        private int idleSteps;
        private int victim;

        Worker(int number) {
            victim = number;
        }

        int queueLength() {
            return queue.size();
        }

        void putOnTop(Task task) {
            queue.add(task);
        }

        Task takeTop() {
            return queue.remove(queue.size() - 1);
        }

        Task takeBottom() {
            return queue.remove(0);
        }

        Task fromTop(int k) {
            return queue.get(queue.size() - 1 - k);
        }

        int queuedTasks(Job job) {
            int queued = 0;
            for (int i = 0; i < queue.size(); i++) {
                if (queue.get(i).job == job) {
                    queued++;
                }
            }
            return queued;
        }

        void dropTasks(Job job) {
            for (int i = queue.size() - 1; i >= 0; i--) {
                if (queue.get(i).job == job) {
                    queue.remove(i);
                }
            }
        }
    }
}
