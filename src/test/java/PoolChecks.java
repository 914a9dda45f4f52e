/** What the tests of the pool share: the document's numbers by name, pools made ready, and looks at several facts. */
abstract class PoolChecks {
    static final int BYTE = 0;
    static final int SHORT = 1;
    static final int INT = 2;
    static final int LONG = 3;
    static final int FLOAT = 4;
    static final int DOUBLE = 5;
    static final int SUM = 0;
    static final int GREATEST = 1;
    static final int SCAN = 2;
    static final int SORT = 3;
    static final int MAP = 4;
    static final int SHARE = 5;
    static final int RUNNING = 0;
    static final int DONE = 1;
    static final int FAILED = 2;
    /** The greatest float or double, in eighths. */
    static final long TOP = 524288;
    static final int[] FAR = {Integer.MIN_VALUE, Integer.MAX_VALUE};

    interface CallOf {
        long answer(int argument);
    }

    PoolChecks() {
    }

    /** Each argument of least .. most is taken; one step beyond on either side, and far beyond, is refused. */
    static void dueTakenOnly(String name, int least, int most, Class<?> refusal, CallOf call) {
        for (int i = least; i <= most; i++) {
            int argument = i;
            String outcome = Checks.outcome(() -> call.answer(argument));
            Checks.dueText(name + " " + i, outcome.startsWith("throws.") ? outcome : "taken", "taken");
        }
        for (int beyond : new int[] {FAR[0], least - 1, most + 1, FAR[1]}) {
            Checks.dueThrows(name + " " + beyond, refusal, () -> call.answer(beyond));
        }
    }

    static ForkPool filled(int workers, int type, long... values) {
        ForkPool pool = new ForkPool(workers);
        fill(pool, 0, type, values);
        return pool;
    }

    static void fill(ForkPool pool, int array, int type, long... values) {
        pool.array(array, type, values.length);
        for (int i = 0; i < values.length; i++) {
            pool.set(array, i, values[i]);
        }
    }

    static void dueElements(String when, ForkPool pool, int array, long... want) {
        for (int i = 0; i < want.length; i++) {
            Checks.due(when + ", get(" + array + ", " + i + ")", pool.get(array, i), want[i]);
        }
        Checks.dueThrows(when + ", get behind the end", Checks.NO_SUCH_ELEMENT, () -> pool.get(array, want.length));
    }

    static void dueTask(String when, ForkPool pool, int worker, int k, int job, int from, int to) {
        String call = when + ", task(" + worker + ", " + k + ", ";
        Checks.due(call + "0)", pool.task(worker, k, 0), job);
        Checks.due(call + "1)", pool.task(worker, k, 1), from);
        Checks.due(call + "2)", pool.task(worker, k, 2), to);
    }

    static void dueWorker(String when, ForkPool pool, int worker, int... want) {
        for (int what = 0; what < want.length; what++) {
            Checks.due(when + ", worker(" + worker + ", " + what + ")", pool.worker(worker, what), want[what]);
        }
    }

    static void dueJob(String when, ForkPool pool, int job, int... want) {
        for (int what = 0; what < want.length; what++) {
            Checks.due(when + ", job(" + job + ", " + what + ")", pool.job(job, what), want[what]);
        }
    }

    /** A queue from its top to its bottom, each task as job:from-to. */
    static void dueQueue(String when, ForkPool pool, int worker, String want) {
        StringBuilder queue = new StringBuilder();
        for (int k = 0; k < pool.worker(worker, 0); k++) {
            queue.append(k == 0 ? "" : " ").append(pool.task(worker, k, 0));
            queue.append(':').append(pool.task(worker, k, 1)).append('-').append(pool.task(worker, k, 2));
        }
        Checks.dueText(when + ", queue of " + worker, queue.toString(), want);
    }

    /** Array 0 with 1, 2, 3, .. and a job on it, in the queue of worker 0. */
    static ForkPool begun(int workers, int length, int kind) {
        ForkPool pool = new ForkPool(workers);
        pool.array(0, INT, length);
        for (int i = 0; i < length; i++) {
            pool.set(0, i, i + 1);
        }
        pool.begin(kind, 0, 0, 1, 0);
        return pool;
    }

    /** Array 0 with the values and a job on it that one worker has brought to its end. */
    static ForkPool ended(int kind, int grain, int c, int d, int type, long... values) {
        ForkPool pool = filled(1, type, values);
        pool.grain(grain);
        pool.begin(kind, 0, 0, c, d);
        pool.step(60);
        pool.step(60);
        return pool;
    }
}
