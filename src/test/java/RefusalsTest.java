/**
 * "What is thrown is told in the order of testing; a call that throws changes nothing, but where told."
 * Each refused call is made on one of two pools with the same past: it must throw what the document tells, and the two
 * pools must look and go on alike. main names the sentence of each test.
 */
public final class RefusalsTest extends PoolChecks {
    private static final int DONE_JOB = 0;
    private static final int FAILED_JOB = 1;
    private static final int CANCELLED_JOB = 2;
    private static final int RUNNING_JOB = 3;
    private static final int RUNNING_SCAN = 4;
    private static final int NO_JOB = 5;
    private static final int BUSY = 0;
    private static final int FREE = 2;
    private static final int UNMADE = 3;
    /** Kind, worker, c and d, one of them out of range. */
    private static final int[][] OUT_OF_RANGE = {{-1, 0, 0, 0}, {6, 0, 0, 0}, {SUM, -1, 0, 0}, {SUM, 3, 0, 0},
        {SUM, 0, -1001, 0}, {SUM, 0, 1001, 0}, {SUM, 0, 0, -1001}, {SUM, 0, 0, 1001}};

    private interface Past {
        ForkPool made();
    }

    private interface Refused {
        long answer(ForkPool pool);
    }

    private RefusalsTest() {
    }

    public static void main(String[] args) {
        Checks.sentence("promise 2: array not 0 .. 3, type not 0 .. 5, length not 1 .. 24", RefusalsTest::arrayRange);
        Checks.sentence("promise 2: IllegalStateException", RefusalsTest::arrayState);
        Checks.sentence("promise 2: IllegalArgumentException before IllegalStateException", RefusalsTest::arrayOrder);
        Checks.sentence("promise 3: NoSuchElementException", RefusalsTest::setRange);
        Checks.sentence("promise 3: IllegalStateException", RefusalsTest::setState);
        Checks.sentence("promise 3: NoSuchElementException before IllegalStateException", RefusalsTest::setOrder);
        Checks.sentence("promise 4: NoSuchElementException", RefusalsTest::getRange);
        Checks.sentence("promise 5: NoSuchElementException", RefusalsTest::beginWithoutArray);
        Checks.sentence("promise 5: IllegalArgumentException", RefusalsTest::beginRange);
        Checks.sentence("promise 5: IllegalStateException: a job on it is neither DONE nor FAILED",
            RefusalsTest::beginState);
        Checks.sentence("promise 5: or 12 were begun", RefusalsTest::beginThirteenth);
        Checks.sentence("promise 5: NoSuchElementException before the other two", RefusalsTest::beginArrayFirst);
        Checks.sentence("promise 5: IllegalArgumentException before IllegalStateException", RefusalsTest::beginOrder);
        Checks.sentence("promise 6: IllegalArgumentException", RefusalsTest::stepRange);
        Checks.sentence("promise 7: NoSuchElementException", RefusalsTest::joinWithoutJob);
        Checks.sentence("promise 7: ArithmeticException of a job that has FAILED before", RefusalsTest::joinOfFailed);
        Checks.sentence("promise 7: (then, too, the steps have been made): but where told",
            RefusalsTest::joinThatFails);
        Checks.sentence("promise 8: NoSuchElementException", RefusalsTest::resultWithoutJob);
        Checks.sentence("promise 8: UnsupportedOperationException before IllegalStateException",
            RefusalsTest::resultOrder);
        Checks.sentence("promise 8: IllegalStateException", RefusalsTest::resultState);
        Checks.sentence("promise 9: NoSuchElementException", RefusalsTest::cancelWithoutJob);
        Checks.sentence("promise 9: IllegalStateException", RefusalsTest::cancelState);
        Checks.sentence("promise 10: NoSuchElementException before IllegalArgumentException", RefusalsTest::jobOrder);
        Checks.sentence("promise 10: IllegalArgumentException", RefusalsTest::jobWhat);
        Checks.sentence("promise 11: NoSuchElementException before IllegalArgumentException",
            RefusalsTest::taskOrder);
        Checks.sentence("promise 11: IllegalArgumentException", RefusalsTest::taskWhat);
        Checks.sentence("promise 12: NoSuchElementException before IllegalArgumentException",
            RefusalsTest::workerOrder);
        Checks.sentence("promise 12: IllegalArgumentException", RefusalsTest::workerWhat);
        Checks.sentence("promise 13: IllegalArgumentException", RefusalsTest::grainRange);
        Checks.sentence("promise 14: IllegalArgumentException", RefusalsTest::countRange);
        Checks.end();
    }

    /** Jobs in each state, tasks in two queues, an array of each sort, and a grain of its own. */
    private static ForkPool amidWork() {
        ForkPool pool = new ForkPool(3);
        fill(pool, BUSY, INT, 5, 4, 3, 2, 1);
        fill(pool, 1, DOUBLE, 8, 16, 0, 24);
        fill(pool, FREE, BYTE, 1, 0, 2);
        pool.begin(SUM, BUSY, 0, 0, 0);
        pool.step(60);
        pool.begin(SHARE, FREE, 0, 1, 0);
        pool.step(1);
        pool.begin(MAP, FREE, 2, 1, 1);
        pool.cancel(CANCELLED_JOB);
        pool.grain(2);
        pool.begin(SUM, BUSY, 1, 0, 0);
        pool.step(1);
        pool.begin(SCAN, 1, 2, 0, 0);
        return pool;
    }

    private static ForkPool withCancelledGreatest() {
        ForkPool pool = amidWork();
        pool.cancel(pool.begin(GREATEST, FREE, 0, 0, 0));
        return pool;
    }

    private static ForkPool afterTwelve() {
        ForkPool pool = filled(1, INT, 3);
        pool.array(1, INT, 2);
        for (int job = 0; job < 12; job++) {
            pool.begin(SUM, 0, 0, 0, 0);
            pool.step(1);
        }
        return pool;
    }

    /** Eleven jobs are over and the twelfth is running: both reasons of an IllegalStateException are there. */
    private static ForkPool amidTheTwelfth() {
        ForkPool pool = filled(1, INT, 3);
        for (int job = 0; job < 12; job++) {
            pool.step(1);
            pool.begin(SUM, 0, 0, 0, 0);
        }
        return pool;
    }

    private static void dueRefused(Past past, String call, Class<?> want, Refused refused) {
        ForkPool pool = past.made();
        ForkPool twin = past.made();
        Checks.dueThrows(call, want, () -> refused.answer(pool));
        Checks.dueText(call + " has changed something: it", Sight.of(pool), Sight.of(twin));
        Checks.dueText(call + " has changed something for later: it", Sight.after(pool), Sight.after(twin));
    }

    private static void dueRefused(String call, Class<?> want, Refused refused) {
        dueRefused(RefusalsTest::amidWork, call, want, refused);
    }

    private static void arrayRange() {
        int[][] wrong = {{-1, INT, 1}, {4, INT, 1}, {FREE, -1, 1}, {FREE, 6, 1}, {FREE, INT, 0}, {FREE, INT, 25},
            {UNMADE, -1, 1}, {UNMADE, 6, 1}, {UNMADE, INT, 0}, {UNMADE, INT, 25}, {-1, -1, 0}, {4, 6, 25}};
        for (int[] a : wrong) {
            dueRefused("array(" + a[0] + ", " + a[1] + ", " + a[2] + ")", Checks.ILLEGAL_ARGUMENT,
                pool -> pool.array(a[0], a[1], a[2]));
        }
    }

    private static void arrayState() {
        dueRefused("of the same kind", Checks.ILLEGAL_STATE, pool -> pool.array(BUSY, INT, 5));
        dueRefused("of another kind", Checks.ILLEGAL_STATE, pool -> pool.array(BUSY, BYTE, 24));
        dueRefused("under a SCAN", Checks.ILLEGAL_STATE, pool -> pool.array(1, LONG, 1));
    }

    private static void arrayOrder() {
        int[][] wrong = {{-1, 5}, {6, 5}, {INT, 0}, {INT, 25}};
        for (int[] a : wrong) {
            dueRefused("array(0, " + a[0] + ", " + a[1] + ")", Checks.ILLEGAL_ARGUMENT,
                pool -> pool.array(BUSY, a[0], a[1]));
        }
    }

    private static void setRange() {
        int[][] wrong = {{-1, 0}, {4, 0}, {UNMADE, 0}, {FREE, -1}, {FREE, 3}, {FREE, 24}};
        for (int[] a : wrong) {
            dueRefused("set(" + a[0] + ", " + a[1] + ", 9)", Checks.NO_SUCH_ELEMENT, pool -> pool.set(a[0], a[1], 9));
        }
    }

    private static void setState() {
        dueRefused("the first element", Checks.ILLEGAL_STATE, pool -> pool.set(BUSY, 0, 9));
        dueRefused("the last element", Checks.ILLEGAL_STATE, pool -> pool.set(BUSY, 4, 9));
        dueRefused("what is there", Checks.ILLEGAL_STATE, pool -> pool.set(BUSY, 0, 5));
        dueRefused("under a SCAN", Checks.ILLEGAL_STATE, pool -> pool.set(1, 0, 9));
    }

    private static void setOrder() {
        dueRefused("before the first", Checks.NO_SUCH_ELEMENT, pool -> pool.set(BUSY, -1, 9));
        dueRefused("behind the last", Checks.NO_SUCH_ELEMENT, pool -> pool.set(BUSY, 5, 9));
    }

    private static void getRange() {
        int[][] wrong = {{-1, 0}, {4, 0}, {UNMADE, 0}, {FREE, -1}, {FREE, 3}, {BUSY, -1}, {BUSY, 5}};
        for (int[] a : wrong) {
            dueRefused("get(" + a[0] + ", " + a[1] + ")", Checks.NO_SUCH_ELEMENT, pool -> pool.get(a[0], a[1]));
        }
    }

    private static void beginWithoutArray() {
        for (int array : new int[] {-1, UNMADE, 4}) {
            dueRefused("on array " + array, Checks.NO_SUCH_ELEMENT, pool -> pool.begin(SUM, array, 0, 0, 0));
        }
    }

    private static void beginRange() {
        for (int[] a : OUT_OF_RANGE) {
            dueRefused("begin(" + a[0] + ", 2, " + a[1] + ", " + a[2] + ", " + a[3] + ")", Checks.ILLEGAL_ARGUMENT,
                pool -> pool.begin(a[0], FREE, a[1], a[2], a[3]));
        }
    }

    private static void beginState() {
        for (int kind = SUM; kind <= SHARE; kind++) {
            int another = kind;
            dueRefused("kind " + kind, Checks.ILLEGAL_STATE, pool -> pool.begin(another, BUSY, 0, 1, 1));
        }
    }

    private static void beginThirteenth() {
        dueRefused(RefusalsTest::afterTwelve, "the same array", Checks.ILLEGAL_STATE,
            pool -> pool.begin(SUM, 0, 0, 0, 0));
        dueRefused(RefusalsTest::afterTwelve, "another array", Checks.ILLEGAL_STATE,
            pool -> pool.begin(SORT, 1, 0, 0, 0));
        dueRefused(RefusalsTest::amidTheTwelfth, "both reasons", Checks.ILLEGAL_STATE,
            pool -> pool.begin(SUM, 0, 0, 0, 0));
    }

    private static void beginArrayFirst() {
        for (int array : new int[] {-1, UNMADE, 4}) {
            for (int[] a : OUT_OF_RANGE) {
                dueRefused("array " + array + " before a range", Checks.NO_SUCH_ELEMENT,
                    pool -> pool.begin(a[0], array, a[1], a[2], a[3]));
            }
            dueRefused(RefusalsTest::afterTwelve, "array " + array + " before the number", Checks.NO_SUCH_ELEMENT,
                pool -> pool.begin(SUM, array, 0, 0, 0));
        }
    }

    private static void beginOrder() {
        for (int[] a : OUT_OF_RANGE) {
            dueRefused("a range before a job on it", Checks.ILLEGAL_ARGUMENT,
                pool -> pool.begin(a[0], BUSY, a[1], a[2], a[3]));
            dueRefused(RefusalsTest::afterTwelve, "a range before the number", Checks.ILLEGAL_ARGUMENT,
                pool -> pool.begin(a[0], 0, a[1], a[2], a[3]));
        }
    }

    private static void stepRange() {
        for (int n : new int[] {FAR[0], -1, 0, 61, FAR[1]}) {
            dueRefused("step(" + n + ")", Checks.ILLEGAL_ARGUMENT, pool -> pool.step(n));
        }
    }

    private static void joinWithoutJob() {
        for (int job : new int[] {-1, NO_JOB, 12}) {
            dueRefused("join(" + job + ")", Checks.NO_SUCH_ELEMENT, pool -> pool.join(job));
        }
        dueRefused(RefusalsTest::afterTwelve, "join(12) of twelve", Checks.NO_SUCH_ELEMENT, pool -> pool.join(12));
    }

    private static void joinOfFailed() {
        dueRefused("FAILED", Checks.ARITHMETIC, pool -> pool.join(FAILED_JOB));
        dueRefused("cancelled", Checks.ARITHMETIC, pool -> pool.join(CANCELLED_JOB));
    }

    /** The twin makes the same steps by step(n): the join that throws must have made them, and nothing else. */
    private static void joinThatFails() {
        ForkPool pool = amidWork();
        ForkPool twin = amidWork();
        int job = 0;
        for (ForkPool each : new ForkPool[] {pool, twin}) {
            job = each.begin(SHARE, FREE, 1, 1, 0);
        }
        int failing = job;
        Checks.dueThrows("join", Checks.ARITHMETIC, () -> pool.join(failing));
        int steps = 0;
        while (twin.job(failing, 0) == RUNNING && steps < 60) {
            twin.step(1);
            steps++;
        }
        Checks.dueText("steps were made", Boolean.toString(steps > 1), "true");
        Checks.dueText("the steps", Sight.of(pool), Sight.of(twin));
        Checks.dueText("what comes after", Sight.after(pool), Sight.after(twin));
    }

    private static void resultWithoutJob() {
        for (int job : new int[] {-1, NO_JOB, 12}) {
            dueRefused("result(" + job + ")", Checks.NO_SUCH_ELEMENT, pool -> pool.result(job));
        }
    }

    private static void resultOrder() {
        dueRefused("running", Checks.UNSUPPORTED, pool -> pool.result(RUNNING_SCAN));
        dueRefused("FAILED", Checks.UNSUPPORTED, pool -> pool.result(FAILED_JOB));
        dueRefused("cancelled", Checks.UNSUPPORTED, pool -> pool.result(CANCELLED_JOB));
    }

    private static void resultState() {
        dueRefused("running", Checks.ILLEGAL_STATE, pool -> pool.result(RUNNING_JOB));
        dueRefused(RefusalsTest::withCancelledGreatest, "cancelled", Checks.ILLEGAL_STATE, pool -> pool.result(NO_JOB));
    }

    private static void cancelWithoutJob() {
        for (int job : new int[] {-1, NO_JOB, 12}) {
            dueRefused("cancel(" + job + ")", Checks.NO_SUCH_ELEMENT, pool -> pool.cancel(job));
        }
    }

    private static void cancelState() {
        dueRefused("DONE", Checks.ILLEGAL_STATE, pool -> pool.cancel(DONE_JOB));
        dueRefused("FAILED", Checks.ILLEGAL_STATE, pool -> pool.cancel(FAILED_JOB));
        dueRefused("cancelled", Checks.ILLEGAL_STATE, pool -> pool.cancel(CANCELLED_JOB));
    }

    private static void jobOrder() {
        for (int job : new int[] {-1, NO_JOB, 12}) {
            for (int what : new int[] {-1, 0, 4, 5}) {
                dueRefused("job(" + job + ", " + what + ")", Checks.NO_SUCH_ELEMENT, pool -> pool.job(job, what));
            }
        }
    }

    private static void jobWhat() {
        for (int job = DONE_JOB; job < NO_JOB; job++) {
            int there = job;
            dueRefused("job(" + job + ", -1)", Checks.ILLEGAL_ARGUMENT, pool -> pool.job(there, -1));
            dueRefused("job(" + job + ", 5)", Checks.ILLEGAL_ARGUMENT, pool -> pool.job(there, 5));
        }
    }

    /** Worker 1 has two tasks, worker 0 none. */
    private static void taskOrder() {
        int[][] wrong = {{-1, 0}, {3, 0}, {1, -1}, {1, 2}, {0, 0}};
        for (int[] a : wrong) {
            for (int what : new int[] {-1, 0, 2, 3}) {
                dueRefused("task(" + a[0] + ", " + a[1] + ", " + what + ")", Checks.NO_SUCH_ELEMENT,
                    pool -> pool.task(a[0], a[1], what));
            }
        }
    }

    private static void taskWhat() {
        for (int k = 0; k < 2; k++) {
            int there = k;
            dueRefused("task(1, " + k + ", -1)", Checks.ILLEGAL_ARGUMENT, pool -> pool.task(1, there, -1));
            dueRefused("task(1, " + k + ", 3)", Checks.ILLEGAL_ARGUMENT, pool -> pool.task(1, there, 3));
        }
    }

    private static void workerOrder() {
        for (int worker : new int[] {-1, 3}) {
            for (int what : new int[] {-1, 0, 4, 5}) {
                dueRefused("worker(" + worker + ", " + what + ")", Checks.NO_SUCH_ELEMENT,
                    pool -> pool.worker(worker, what));
            }
        }
    }

    private static void workerWhat() {
        dueRefused("worker(0, -1)", Checks.ILLEGAL_ARGUMENT, pool -> pool.worker(0, -1));
        dueRefused("worker(2, 5)", Checks.ILLEGAL_ARGUMENT, pool -> pool.worker(2, 5));
    }

    private static void grainRange() {
        for (int grain : new int[] {FAR[0], -1, 0, 25, FAR[1]}) {
            dueRefused("grain(" + grain + ")", Checks.ILLEGAL_ARGUMENT, pool -> pool.grain(grain));
        }
    }

    private static void countRange() {
        for (int what : new int[] {FAR[0], -1, 4, FAR[1]}) {
            dueRefused("count(" + what + ")", Checks.ILLEGAL_ARGUMENT, pool -> pool.count(what));
        }
    }
}
