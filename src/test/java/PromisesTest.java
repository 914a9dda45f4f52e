/** Each promise of the document by itself: ordinary inputs, the edges that it names, and wrong inputs. */
public final class PromisesTest extends PoolChecks {
    private PromisesTest() {
    }

    public static void main(String[] args) {
        promise1NewObject();
        promise2Array();
        promise2ArrayOfRunningJob();
        promise3SetByType();
        promise3SetWrong();
        promise4Get();
        promise5Begin();
        promise5BeginWrong();
        promise5TwelveJobs();
        promise6Step();
        promise6ForkAndSteal();
        promise6VictimGoesAround();
        promise6Idle();
        promise7Join();
        promise7JoinFailed();
        promise8Result();
        promise8SumIsKeptOnTheWay();
        promise9Cancel();
        promise9CancelLeavesOthers();
        promise10Job();
        promise11Task();
        promise12Worker();
        promise13Grain();
        promise13GrainWhenDone();
        promise14Count();
        promise15FailingLeafCounts();
        scanHasTwoRounds();
        scanKeepsFirstRoundsForks();
        scanKeepsPartialSums();
        scanSecondRoundIsWithTheEnder();
        sortByStages();
        mapByType();
        shareByType();
        shareFailure();
        Checks.end();
    }

    private static void promise1NewObject() {
        Checks.part("promise 1");
        int[][] clamped = {{Integer.MIN_VALUE, 1}, {-1, 1}, {0, 1}, {1, 1}, {2, 2}, {3, 3}, {4, 4}, {5, 4},
            {Integer.MAX_VALUE, 4}};
        for (int[] pair : clamped) {
            Checks.due("workers of ForkPool(" + pair[0] + ")", new ForkPool(pair[0]).count(3), pair[1]);
        }
        ForkPool pool = new ForkPool(4);
        for (int i = 0; i < 4; i++) {
            int number = i;
            dueWorker("at first", pool, i, 0, 0, 0, 0, i);
            Checks.dueThrows("array " + i + " at first", Checks.NO_SUCH_ELEMENT, () -> pool.get(number, 0));
            Checks.dueThrows("task of " + i + " at first", Checks.NO_SUCH_ELEMENT, () -> pool.task(number, 0, 0));
        }
        Checks.due("jobs at first", pool.count(0), 0);
        Checks.due("steps at first", pool.count(1), 0);
        Checks.due("next at first", pool.count(2), 0);
        Checks.due("grain at first", pool.grain(24), 4);
        Checks.dueThrows("job 0 at first", Checks.NO_SUCH_ELEMENT, () -> pool.job(0, 0));
    }

    private static void promise2Array() {
        Checks.part("promise 2");
        ForkPool pool = new ForkPool(1);
        for (int type = 0; type < 6; type++) {
            Checks.due("array of 1", pool.array(type % 4, type, 1), 1);
            Checks.due("array of 24", pool.array(type % 4, type, 24), 24);
            Checks.due("first element", pool.get(type % 4, 0), 0);
            Checks.due("last element", pool.get(type % 4, 23), 0);
        }
        fill(pool, 3, LONG, 300, 301, 302);
        int[][] wrong = {{-1, 0, 1}, {4, 0, 1}, {3, -1, 1}, {3, 6, 1}, {3, 0, 0}, {3, 0, -1}, {3, 0, 25}};
        for (int[] call : wrong) {
            Checks.dueThrows("array(" + call[0] + ", " + call[1] + ", " + call[2] + ")", Checks.ILLEGAL_ARGUMENT,
                () -> pool.array(call[0], call[1], call[2]));
        }
        for (int far : FAR) {
            Checks.dueThrows("array far", Checks.ILLEGAL_ARGUMENT, () -> pool.array(far, 0, 1));
            Checks.dueThrows("type far", Checks.ILLEGAL_ARGUMENT, () -> pool.array(0, far, 1));
            Checks.dueThrows("length far", Checks.ILLEGAL_ARGUMENT, () -> pool.array(0, 0, far));
        }
        dueElements("after wrong calls", pool, 3, 300, 301, 302);
        Checks.due("array in place of the one there", pool.array(3, BYTE, 2), 2);
        dueElements("made anew", pool, 3, 0, 0);
        Checks.due("of the new type", pool.set(3, 0, 300), 44);
        pool.array(3, LONG, 5);
        dueElements("longer again", pool, 3, 0, 0, 0, 0, 0);
    }

    private static void promise2ArrayOfRunningJob() {
        Checks.part("promise 2, running");
        ForkPool pool = filled(1, INT, 5, 6);
        pool.begin(SUM, 0, 0, 0, 0);
        Checks.dueThrows("array under a job", Checks.ILLEGAL_STATE, () -> pool.array(0, BYTE, 7));
        Checks.dueThrows("range before state", Checks.ILLEGAL_ARGUMENT, () -> pool.array(0, 6, 7));
        dueElements("under a job", pool, 0, 5, 6);
        Checks.due("another array", pool.array(1, BYTE, 7), 7);
        pool.join(0);
        Checks.due("after the job is done", pool.array(0, INT, 3), 3);
        Checks.due("the result stays", pool.result(0), 11);
        pool.begin(SHARE, 0, 0, 1, 0);
        pool.step(1);
        Checks.due("after the job has failed", pool.array(0, INT, 4), 4);
        pool.begin(SUM, 0, 0, 1, 0);
        pool.cancel(2);
        Checks.due("after the job was cancelled", pool.array(0, INT, 5), 5);
    }

    private static void promise3SetByType() {
        Checks.part("promise 3");
        ForkPool pool = new ForkPool(1);
        long[][] kept = {
            {BYTE, 127, 127}, {BYTE, 128, -128}, {BYTE, -128, -128}, {BYTE, -129, 127}, {BYTE, 255, -1}, {BYTE, 256, 0},
            {BYTE, Long.MAX_VALUE, -1}, {BYTE, Long.MIN_VALUE, 0},
            {SHORT, 32767, 32767}, {SHORT, 32768, -32768}, {SHORT, -32769, 32767}, {SHORT, 65536 + 7, 7},
            {INT, 2147483647L, 2147483647L}, {INT, 2147483648L, -2147483648L}, {INT, -2147483649L, 2147483647L},
            {INT, (1L << 32) + 9, 9},
            {LONG, Long.MAX_VALUE, Long.MAX_VALUE}, {LONG, Long.MIN_VALUE, Long.MIN_VALUE}, {LONG, 1L << 32, 1L << 32},
            {FLOAT, 1, 1}, {FLOAT, -1, -1}, {FLOAT, TOP, TOP}, {FLOAT, TOP + 1, TOP}, {FLOAT, -TOP, -TOP},
            {FLOAT, -TOP - 1, -TOP}, {FLOAT, Long.MAX_VALUE, TOP}, {FLOAT, Long.MIN_VALUE, -TOP},
            {DOUBLE, 3, 3}, {DOUBLE, TOP, TOP}, {DOUBLE, TOP + 1, TOP}, {DOUBLE, -TOP - 1, -TOP},
            {DOUBLE, Long.MAX_VALUE, TOP}, {DOUBLE, Long.MIN_VALUE, -TOP},
        };
        for (long[] row : kept) {
            pool.array(0, (int) row[0], 2);
            Checks.due("type " + row[0] + ", set(0, 1, " + row[1] + ")", pool.set(0, 1, row[1]), row[2]);
            Checks.due("type " + row[0] + ", get(0, 1)", pool.get(0, 1), row[2]);
            Checks.due("type " + row[0] + ", its neighbour", pool.get(0, 0), 0);
        }
    }

    private static void promise3SetWrong() {
        Checks.part("promise 3, wrong");
        ForkPool pool = filled(1, INT, 1, 2, 3);
        int[][] places = {{-1, 0}, {4, 0}, {1, 0}, {0, -1}, {0, 3}, {0, 24}, {FAR[0], 0}, {FAR[1], 0}, {0, FAR[0]},
            {0, FAR[1]}};
        for (int[] place : places) {
            Checks.dueThrows("set(" + place[0] + ", " + place[1] + ", 9)", Checks.NO_SUCH_ELEMENT,
                () -> pool.set(place[0], place[1], 9));
        }
        pool.array(2, INT, 1);
        pool.begin(SUM, 0, 0, 0, 0);
        Checks.dueThrows("set under a job", Checks.ILLEGAL_STATE, () -> pool.set(0, 0, 9));
        Checks.dueThrows("place before state", Checks.NO_SUCH_ELEMENT, () -> pool.set(0, 3, 9));
        Checks.due("set of another array", pool.set(2, 0, 9), 9);
        dueElements("after wrong calls", pool, 0, 1, 2, 3);
        pool.cancel(0);
        Checks.due("set after a cancelled job", pool.set(0, 0, 9), 9);
    }

    private static void promise4Get() {
        Checks.part("promise 4");
        ForkPool pool = filled(1, SHORT, 10, -11, 12);
        pool.array(3, BYTE, 24);
        pool.set(3, 23, 5);
        pool.begin(MAP, 0, 0, 2, 0);
        dueElements("under a job", pool, 0, 10, -11, 12);
        Checks.due("the last of 24", pool.get(3, 23), 5);
        int[][] places = {{-1, 0}, {4, 0}, {1, 0}, {2, 0}, {0, -1}, {0, 3}, {3, 24}, {FAR[0], 0}, {FAR[1], 0},
            {0, FAR[0]}, {0, FAR[1]}};
        for (int[] place : places) {
            Checks.dueThrows("get(" + place[0] + ", " + place[1] + ")", Checks.NO_SUCH_ELEMENT,
                () -> pool.get(place[0], place[1]));
        }
        pool.array(3, BYTE, 2);
        Checks.dueThrows("get behind a shorter array", Checks.NO_SUCH_ELEMENT, () -> pool.get(3, 2));
    }

    private static void promise5Begin() {
        Checks.part("promise 5");
        ForkPool pool = new ForkPool(3);
        for (int array = 0; array < 4; array++) {
            pool.array(array, INT, 5 + array);
        }
        Checks.due("first begin", pool.begin(SUM, 2, 1, 1000, -1000), 0);
        Checks.due("second begin", pool.begin(SORT, 0, 1, -1000, 1000), 1);
        Checks.due("third begin", pool.begin(SHARE, 3, 2, 0, 0), 2);
        dueTask("the newest is at the top", pool, 1, 0, 1, 0, 5);
        dueTask("the older one is below it", pool, 1, 1, 0, 0, 7);
        dueTask("the other worker's", pool, 2, 0, 2, 0, 8);
        Checks.due("queue of worker 0", pool.worker(0, 0), 0);
        Checks.due("queue of worker 1", pool.worker(1, 0), 2);
        Checks.due("no step is made", pool.count(1), 0);
        dueJob("begun", pool, 1, RUNNING, -1, 0, 1, SORT);
    }

    private static void promise5BeginWrong() {
        Checks.part("promise 5, wrong");
        ForkPool pool = filled(3, INT, 1, 2);
        for (int array : new int[] {-1, 1, 4, FAR[0], FAR[1]}) {
            Checks.dueThrows("begin on array " + array, Checks.NO_SUCH_ELEMENT, () -> pool.begin(SUM, array, 0, 0, 0));
            Checks.dueThrows("array before kind", Checks.NO_SUCH_ELEMENT, () -> pool.begin(6, array, 9, 2000, 2000));
        }
        int[][] wrong = {{-1, 0, 0, 0}, {6, 0, 0, 0}, {0, -1, 0, 0}, {0, 3, 0, 0}, {0, 0, 1001, 0}, {0, 0, -1001, 0},
            {0, 0, 0, 1001}, {0, 0, 0, -1001}, {FAR[0], 0, 0, 0}, {FAR[1], 0, 0, 0}, {0, FAR[0], 0, 0},
            {0, FAR[1], 0, 0}, {0, 0, FAR[0], 0}, {0, 0, FAR[1], 0}, {0, 0, 0, FAR[0]}, {0, 0, 0, FAR[1]}};
        for (int[] call : wrong) {
            Checks.dueThrows("begin " + java.util.Arrays.toString(call), Checks.ILLEGAL_ARGUMENT,
                () -> pool.begin(call[0], 0, call[1], call[2], call[3]));
        }
        Checks.due("none was begun", pool.count(0), 0);
        pool.begin(SUM, 0, 2, 0, 0);
        Checks.dueThrows("begin under a job", Checks.ILLEGAL_STATE, () -> pool.begin(SUM, 0, 0, 0, 0));
        for (int[] call : wrong) {
            Checks.dueThrows("range before state", Checks.ILLEGAL_ARGUMENT,
                () -> pool.begin(call[0], 0, call[1], call[2], call[3]));
        }
        Checks.due("one was begun", pool.count(0), 1);
        Checks.due("no task more", pool.worker(0, 0) + pool.worker(1, 0) + pool.worker(2, 0), 1);
    }

    private static void promise5TwelveJobs() {
        Checks.part("promise 5, twelve");
        ForkPool pool = filled(1, INT, 1);
        for (int job = 0; job < 12; job++) {
            Checks.due("begin", pool.begin(SUM, 0, 0, 0, 0), job);
            if (job % 2 == 0) {
                pool.join(job);
            } else {
                pool.cancel(job);
            }
        }
        Checks.dueThrows("a thirteenth", Checks.ILLEGAL_STATE, () -> pool.begin(SUM, 0, 0, 0, 0));
        Checks.dueThrows("range before number", Checks.ILLEGAL_ARGUMENT, () -> pool.begin(SUM, 0, 1, 0, 0));
        Checks.dueThrows("array before number", Checks.NO_SUCH_ELEMENT, () -> pool.begin(SUM, 1, 0, 0, 0));
        Checks.due("jobs begun", pool.count(0), 12);
        Checks.due("no task", pool.worker(0, 0), 0);
        Checks.dueThrows("job 12", Checks.NO_SUCH_ELEMENT, () -> pool.job(12, 0));
    }

    private static void promise6Step() {
        Checks.part("promise 6");
        ForkPool pool = filled(2, INT, 1, 2, 3);
        for (int n : new int[] {0, -1, 61, FAR[0], FAR[1]}) {
            Checks.dueThrows("step(" + n + ")", Checks.ILLEGAL_ARGUMENT, () -> pool.step(n));
        }
        Checks.due("no step was made", pool.count(1), 0);
        pool.begin(SUM, 0, 0, 0, 0);
        Checks.due("step(60)", pool.step(60), 1);
        Checks.due("steps", pool.count(1), 60);
        Checks.due("step(1)", pool.step(1), 0);
        Checks.due("whose turn", pool.count(2), 1);
        Checks.due("the sum", pool.result(0), 6);
    }

    /** Four workers and a task at a time: what each of them takes, and from whom. */
    private static void promise6ForkAndSteal() {
        Checks.part("promise 6, fork and steal");
        ForkPool pool = filled(4, INT, 1, 2, 3, 4, 5, 6, 7, 8);
        pool.grain(1);
        pool.begin(SUM, 0, 1, 0, 0);
        pool.step(1);
        dueWorker("0 steals from 1", pool, 0, 2, 1, 1, 0, 1);
        dueTask("the first part is at the top", pool, 0, 0, 0, 0, 4);
        dueTask("the second part is below it", pool, 0, 1, 0, 4, 8);
        pool.step(1);
        dueWorker("1 steals the bottom of 0", pool, 1, 2, 1, 1, 0, 0);
        dueTask("1 forks it", pool, 1, 0, 0, 4, 6);
        dueTask("1 forks it", pool, 1, 1, 0, 6, 8);
        pool.step(1);
        dueWorker("2 steals from 0", pool, 2, 2, 1, 1, 0, 0);
        pool.step(1);
        dueWorker("3 passes 0 by", pool, 3, 2, 1, 1, 0, 1);
        dueTask("3 takes the bottom of 1", pool, 3, 0, 0, 6, 7);
        pool.step(1);
        dueWorker("0 goes on behind its victim", pool, 0, 2, 2, 2, 0, 2);
        dueTask("0 takes the bottom of 2", pool, 0, 0, 0, 2, 3);
        pool.step(1);
        dueWorker("1 takes its own top", pool, 1, 2, 2, 1, 0, 0);
        dueTask("1 takes its own top", pool, 1, 0, 0, 4, 5);
        Checks.due("tasks in queues", pool.job(0, 3), 8 - 1);
        Checks.due("the rest", pool.step(9), 9);
        dueJob("at the end", pool, 0, DONE, -1, 15, 0, SUM);
        Checks.due("the sum", pool.result(0), 36);
        dueWorker("at the end", pool, 0, 0, 4, 2, 0, 2);
        dueWorker("at the end", pool, 1, 0, 4, 1, 0, 0);
        dueWorker("at the end", pool, 2, 0, 4, 1, 0, 0);
        dueWorker("at the end", pool, 3, 0, 3, 1, 0, 1);
    }

    private static void promise6VictimGoesAround() {
        Checks.part("promise 6, victim");
        ForkPool pool = new ForkPool(3);
        for (int array = 0; array < 4; array++) {
            pool.array(array, INT, 1);
        }
        pool.begin(SUM, 0, 1, 0, 0);
        pool.begin(SUM, 1, 1, 0, 0);
        pool.begin(SUM, 2, 2, 0, 0);
        pool.step(1);
        Checks.due("0 begins behind itself", pool.worker(0, 4), 1);
        dueJob("the bottom was taken", pool, 0, DONE);
        dueJob("the top was not", pool, 1, RUNNING);
        pool.step(2);
        Checks.due("1 and 2 have no victim", pool.worker(1, 4) * 10 + pool.worker(2, 4), 12);
        pool.begin(SUM, 0, 1, 0, 0);
        pool.begin(SUM, 1, 2, 0, 0);
        pool.step(1);
        Checks.due("0 begins behind 1", pool.worker(0, 4), 2);
        dueJob("1 keeps its task", pool, 3, RUNNING);
        pool.cancel(3);
        pool.step(2);
        Checks.due("idle steps leave the victim", pool.worker(0, 4), 2);
        pool.begin(SUM, 0, 2, 0, 0);
        pool.step(1);
        Checks.due("the same one again, all around", pool.worker(0, 4), 2);
        Checks.due("three were stolen", pool.worker(0, 2), 3);
    }

    private static void promise6Idle() {
        Checks.part("promise 6, idle");
        ForkPool pool = new ForkPool(3);
        Checks.due("step(7)", pool.step(7), 0);
        dueWorker("idle", pool, 0, 0, 0, 0, 3, 0);
        dueWorker("idle", pool, 1, 0, 0, 0, 2, 1);
        dueWorker("idle", pool, 2, 0, 0, 0, 2, 2);
        ForkPool alone = filled(1, INT, 1);
        alone.begin(SUM, 0, 0, 0, 0);
        Checks.due("alone", alone.step(3), 1);
        dueWorker("alone", alone, 0, 0, 1, 0, 2, 0);
    }

    private static void promise7Join() {
        Checks.part("promise 7");
        ForkPool pool = filled(1, INT, 1, 2, 3, 4, 5);
        fill(pool, 1, INT, 1, 2, 3);
        for (int job : new int[] {-1, 0, 12, FAR[0], FAR[1]}) {
            Checks.dueThrows("join(" + job + ")", Checks.NO_SUCH_ELEMENT, () -> pool.join(job));
        }
        pool.begin(SUM, 0, 0, 0, 0);
        pool.begin(SUM, 1, 0, 0, 0);
        Checks.due("join(0), with the task of 1 before", pool.join(0), 4);
        Checks.due("join(1) is done", pool.join(1), 0);
        Checks.due("join(0) is done", pool.join(0), 0);
        Checks.due("steps", pool.count(1), 4);
        pool.begin(SUM, 0, 0, 0, 0);
        pool.begin(SUM, 1, 0, 0, 0);
        Checks.due("join(3) at the top", pool.join(3), 1);
        dueJob("the other goes on", pool, 2, RUNNING, -1, 0, 1);
        Checks.due("join(2)", pool.join(2), 3);
        Checks.due("no step is idle", pool.worker(0, 3), 0);
    }

    private static void promise7JoinFailed() {
        Checks.part("promise 7, failed");
        ForkPool pool = filled(2, INT, 4, 3, 2, 1, 0);
        pool.begin(SHARE, 0, 0, 12, 0);
        Checks.dueThrows("join of a failing job", Checks.ARITHMETIC, () -> pool.join(0));
        Checks.due("its steps were made", pool.count(1), 2);
        Checks.due("whose turn", pool.count(2), 0);
        dueJob("it has failed", pool, 0, FAILED, 4, 2, 0, SHARE);
        Checks.dueThrows("join of a failed job", Checks.ARITHMETIC, () -> pool.join(0));
        Checks.due("no steps then", pool.count(1), 2);
        pool.begin(SUM, 0, 0, 0, 0);
        pool.cancel(1);
        Checks.dueThrows("join of a cancelled job", Checks.ARITHMETIC, () -> pool.join(1));
        Checks.due("no steps then", pool.count(1), 2);
    }

    private static void promise8Result() {
        Checks.part("promise 8");
        ForkPool pool = filled(1, BYTE, -5, -3, -9, -4, -7, -3);
        for (int job : new int[] {-1, 0, 12, FAR[0], FAR[1]}) {
            Checks.dueThrows("result(" + job + ")", Checks.NO_SUCH_ELEMENT, () -> pool.result(job));
        }
        pool.begin(GREATEST, 0, 0, 0, 0);
        Checks.dueThrows("result of a running job", Checks.ILLEGAL_STATE, () -> pool.result(0));
        pool.join(0);
        Checks.due("the greatest", pool.result(0), -3);
        pool.begin(SUM, 0, 0, 0, 0);
        pool.join(1);
        Checks.due("the sum", pool.result(1), -31);
        for (int kind = SCAN; kind <= SHARE; kind++) {
            int job = pool.begin(kind, 0, 0, 1, 0);
            Checks.dueThrows("kind before state", Checks.UNSUPPORTED, () -> pool.result(job));
            pool.join(job);
            Checks.dueThrows("result of kind " + kind, Checks.UNSUPPORTED, () -> pool.result(job));
        }
        int cancelled = pool.begin(SUM, 0, 0, 0, 0);
        pool.cancel(cancelled);
        Checks.dueThrows("result of a cancelled job", Checks.ILLEGAL_STATE, () -> pool.result(cancelled));
        Checks.due("the older results stay", pool.result(0) * 100 + pool.result(1), -331);
    }

    private static long outcome(int kind, int grain, int type, long... values) {
        ForkPool pool = filled(1, type, values);
        pool.grain(grain);
        pool.begin(kind, 0, 0, 0, 0);
        pool.join(0);
        return pool.result(0);
    }

    private static void promise8SumIsKeptOnTheWay() {
        Checks.part("promise 8, kept");
        Checks.due("bytes wrap", outcome(SUM, 4, BYTE, 100, 100), -56);
        Checks.due("shorts wrap", outcome(SUM, 1, SHORT, 32767, 2), -32767);
        Checks.due("ints wrap", outcome(SUM, 1, INT, Integer.MAX_VALUE, 1), Integer.MIN_VALUE);
        Checks.due("longs wrap", outcome(SUM, 1, LONG, Long.MAX_VALUE, 1), Long.MIN_VALUE);
        long[] far = {TOP, 8, -TOP, -16};
        for (int type : new int[] {FLOAT, DOUBLE}) {
            Checks.due("one leaf", outcome(SUM, 4, type, far), -16);
            Checks.due("two leaves", outcome(SUM, 2, type, far), 0);
            Checks.due("four leaves", outcome(SUM, 1, type, far), 0);
            Checks.due("below", outcome(SUM, 4, type, -TOP, -1, 2), -TOP + 2);
            Checks.due("the greatest", outcome(GREATEST, 1, type, -3, -1, -2), -1);
        }
        Checks.due("the greatest of one leaf", outcome(GREATEST, 24, LONG, Long.MIN_VALUE, -7, -8), -7);
        Checks.due("the greatest of leaves", outcome(GREATEST, 1, LONG, Long.MIN_VALUE, 1, Long.MAX_VALUE), Long.MAX_VALUE);
    }

    private static void promise9Cancel() {
        Checks.part("promise 9");
        ForkPool pool = filled(2, INT, 1, 2, 3, 4, 5, 6, 7, 8);
        for (int job : new int[] {-1, 0, 12, FAR[0], FAR[1]}) {
            Checks.dueThrows("cancel(" + job + ")", Checks.NO_SUCH_ELEMENT, () -> pool.cancel(job));
        }
        pool.grain(1);
        pool.begin(MAP, 0, 0, 10, 0);
        pool.step(7);
        int queued = pool.worker(0, 0) + pool.worker(1, 0);
        Checks.due("tasks in queues", queued, 4);
        Checks.due("cancel(0)", pool.cancel(0), 4);
        dueJob("cancelled", pool, 0, FAILED, -1, 7, 0, MAP);
        Checks.due("queues are empty", pool.worker(0, 0) + pool.worker(1, 0), 0);
        Checks.due("nothing is left to do", pool.step(4), 0);
        dueElements("what was done stays", pool, 0, 10, 2, 3, 4, 50, 6, 7, 8);
        Checks.dueThrows("cancel again", Checks.ILLEGAL_STATE, () -> pool.cancel(0));
        pool.begin(SUM, 0, 1, 0, 0);
        pool.join(1);
        Checks.dueThrows("cancel of a done job", Checks.ILLEGAL_STATE, () -> pool.cancel(1));
        dueJob("still done", pool, 1, DONE);
        pool.set(0, 0, 0);
        pool.begin(SHARE, 0, 0, 1, 0);
        Checks.dueThrows("it fails", Checks.ARITHMETIC, () -> pool.join(2));
        Checks.dueThrows("cancel of a failed job", Checks.ILLEGAL_STATE, () -> pool.cancel(2));
        dueJob("still failed at its index", pool, 2, FAILED, 0);
    }

    private static void promise9CancelLeavesOthers() {
        Checks.part("promise 9, others");
        ForkPool pool = new ForkPool(1);
        for (int array = 0; array < 3; array++) {
            pool.array(array, INT, 2);
            pool.begin(SUM, array, 0, 0, 0);
        }
        Checks.due("cancel the middle one", pool.cancel(1), 1);
        dueTask("others stay in order", pool, 0, 0, 2, 0, 2);
        dueTask("others stay in order", pool, 0, 1, 0, 0, 2);
        Checks.due("others are done", pool.step(5), 2);
        dueJob("others are done", pool, 0, DONE);
        dueJob("others are done", pool, 2, DONE);
    }

    private static void promise10Job() {
        Checks.part("promise 10");
        ForkPool pool = filled(1, INT, 1, 2, 0, 4, 5, 6);
        for (int kind = SUM; kind <= SHARE; kind++) {
            Checks.due("begin", pool.begin(kind, 0, 0, 1, 1), kind);
            dueJob("begun", pool, kind, RUNNING, -1, 0, 1, kind);
            pool.cancel(kind);
        }
        int done = pool.begin(SUM, 0, 0, 0, 0);
        pool.step(1);
        dueJob("forked", pool, done, RUNNING, -1, 1, 2, SUM);
        pool.step(1);
        dueJob("a leaf done", pool, done, RUNNING, -1, 2, 1, SUM);
        pool.step(1);
        dueJob("done", pool, done, DONE, -1, 3, 0, SUM);
        int failed = pool.begin(SHARE, 0, 0, 1, 1);
        pool.step(60);
        dueJob("failed", pool, failed, FAILED, 2, 2, 0, SHARE);
        for (int job : new int[] {-1, 8, 12, FAR[0], FAR[1]}) {
            Checks.dueThrows("job(" + job + ", 0)", Checks.NO_SUCH_ELEMENT, () -> pool.job(job, 0));
            Checks.dueThrows("job before what", Checks.NO_SUCH_ELEMENT, () -> pool.job(job, 5));
        }
        for (int what : new int[] {-1, 5, FAR[0], FAR[1]}) {
            Checks.dueThrows("job(0, " + what + ")", Checks.ILLEGAL_ARGUMENT, () -> pool.job(0, what));
        }
    }

    private static void promise11Task() {
        Checks.part("promise 11");
        ForkPool pool = filled(2, INT, 1, 2, 3, 4, 5, 6, 7);
        pool.array(1, INT, 2);
        pool.begin(SUM, 1, 0, 0, 0);
        pool.begin(SORT, 0, 0, 0, 0);
        pool.step(1);
        dueTask("the middle is rounded down", pool, 0, 0, 1, 0, 3);
        dueTask("the middle is rounded down", pool, 0, 1, 1, 3, 7);
        dueTask("the older job is at the bottom", pool, 0, 2, 0, 0, 2);
        for (int worker : new int[] {-1, 2, 4, FAR[0], FAR[1]}) {
            Checks.dueThrows("worker " + worker, Checks.NO_SUCH_ELEMENT, () -> pool.task(worker, 0, 0));
        }
        for (int k : new int[] {-1, 3, FAR[0], FAR[1]}) {
            Checks.dueThrows("place " + k, Checks.NO_SUCH_ELEMENT, () -> pool.task(0, k, 0));
            Checks.dueThrows("place before what", Checks.NO_SUCH_ELEMENT, () -> pool.task(0, k, 3));
        }
        Checks.dueThrows("an empty queue", Checks.NO_SUCH_ELEMENT, () -> pool.task(1, 0, 0));
        for (int what : new int[] {-1, 3, FAR[0], FAR[1]}) {
            Checks.dueThrows("what " + what, Checks.ILLEGAL_ARGUMENT, () -> pool.task(0, 0, what));
        }
        Checks.due("looking takes nothing", pool.worker(0, 0), 3);
    }

    private static void promise12Worker() {
        Checks.part("promise 12");
        ForkPool pool = filled(2, INT, 1, 2, 3, 4, 5);
        pool.begin(SUM, 0, 0, 0, 0);
        pool.step(2);
        dueWorker("two steps", pool, 0, 1, 1, 0, 0, 0);
        dueWorker("two steps", pool, 1, 0, 1, 1, 0, 0);
        pool.step(5);
        dueWorker("seven steps", pool, 0, 0, 2, 0, 2, 0);
        dueWorker("seven steps", pool, 1, 0, 1, 1, 2, 0);
        for (int worker : new int[] {-1, 2, 4, FAR[0], FAR[1]}) {
            Checks.dueThrows("worker(" + worker + ", 0)", Checks.NO_SUCH_ELEMENT, () -> pool.worker(worker, 0));
            Checks.dueThrows("worker before what", Checks.NO_SUCH_ELEMENT, () -> pool.worker(worker, 5));
        }
        for (int what : new int[] {-1, 5, FAR[0], FAR[1]}) {
            Checks.dueThrows("worker(0, " + what + ")", Checks.ILLEGAL_ARGUMENT, () -> pool.worker(0, what));
        }
    }

    private static void promise13Grain() {
        Checks.part("promise 13");
        ForkPool pool = new ForkPool(1);
        Checks.due("grain(1)", pool.grain(1), 4);
        Checks.due("grain(24)", pool.grain(24), 1);
        for (int grain : new int[] {0, -1, 25, FAR[0], FAR[1]}) {
            Checks.dueThrows("grain(" + grain + ")", Checks.ILLEGAL_ARGUMENT, () -> pool.grain(grain));
        }
        Checks.due("grain(7)", pool.grain(7), 24);
        Checks.due("grain(7) again", pool.grain(7), 7);
        int[][] tasks = {{1, 24, 47}, {2, 24, 31}, {3, 24, 15}, {4, 24, 15}, {5, 24, 15}, {6, 24, 7}, {11, 24, 7},
            {12, 24, 3}, {23, 24, 3}, {24, 24, 1}, {4, 4, 1}, {4, 5, 3}, {1, 1, 1}};
        for (int[] row : tasks) {
            ForkPool other = new ForkPool(2);
            other.array(0, INT, row[1]);
            other.grain(row[0]);
            other.begin(SUM, 0, 0, 0, 0);
            Checks.due("tasks of " + row[1] + " by grain " + row[0], other.join(0), row[2]);
        }
    }

    private static void promise13GrainWhenDone() {
        Checks.part("promise 13, when done");
        ForkPool pool = filled(1, INT, 1, 2, 3, 4, 5, 6, 7, 8);
        pool.grain(24);
        pool.begin(SUM, 0, 0, 0, 0);
        pool.grain(7);
        pool.step(1);
        Checks.due("it forks by the grain of now", pool.job(0, 3), 2);
        pool.grain(3);
        pool.step(1);
        Checks.due("so does its part", pool.job(0, 3), 3);
        pool.grain(4);
        Checks.due("but the other part is a leaf", pool.join(0), 3);
        Checks.due("the sum", pool.result(0), 36);
    }

    private static void promise14Count() {
        Checks.part("promise 14");
        ForkPool pool = filled(3, INT, 1, 2, 3, 4, 5);
        pool.step(4);
        pool.begin(SUM, 0, 0, 0, 0);
        Checks.due("jobs", pool.count(0), 1);
        Checks.due("steps, idle ones too", pool.count(1), 4);
        Checks.due("next", pool.count(2), 1);
        Checks.due("workers", pool.count(3), 3);
        pool.join(0);
        Checks.due("steps of a join, too", pool.count(1), 7);
        Checks.due("next goes around", pool.count(2), 1);
        for (int what : new int[] {-1, 4, FAR[0], FAR[1]}) {
            Checks.dueThrows("count(" + what + ")", Checks.ILLEGAL_ARGUMENT, () -> pool.count(what));
        }
    }

    private static void promise15FailingLeafCounts() {
        Checks.part("promise 15");
        ForkPool pool = filled(2, INT, 1, 2, 3, 0, 5, 6);
        pool.begin(SHARE, 0, 0, 60, 0);
        pool.step(1);
        dueJob("the fork is done", pool, 0, RUNNING, -1, 1, 2);
        dueWorker("the fork is done", pool, 0, 2, 1, 0, 0, 0);
        Checks.due("the failing leaf's step is not idle", pool.step(1), 1);
        dueJob("the failing leaf is done", pool, 0, FAILED, 3, 2, 0);
        dueWorker("as a stolen one", pool, 1, 0, 1, 1, 0, 0);
        dueWorker("the other task is out", pool, 0, 0, 1, 0, 0, 0);
        Checks.due("nothing is left", pool.step(2), 0);
        ForkPool alone = filled(1, INT, 0);
        alone.begin(SHARE, 0, 0, 1, 0);
        alone.step(1);
        dueWorker("not a stolen one", alone, 0, 0, 1, 0, 0, 0);
        dueJob("not a stolen one", alone, 0, FAILED, 0, 1, 0);
    }

    private static void scanHasTwoRounds() {
        Checks.part("promises 5 and 6, SCAN");
        ForkPool pool = filled(1, INT, 3, 1, 4, 1, 5, 9);
        pool.begin(SCAN, 0, 0, 0, 0);
        Checks.due("the first round", pool.step(3), 3);
        dueElements("the first round changes nothing", pool, 0, 3, 1, 4, 1, 5, 9);
        dueJob("the second round", pool, 0, RUNNING, -1, 3, 1, SCAN);
        dueTask("the second round", pool, 0, 0, 0, 0, 6);
        pool.step(1);
        dueTask("it forks", pool, 0, 0, 0, 0, 3);
        dueTask("it forks", pool, 0, 1, 0, 3, 6);
        pool.step(1);
        dueElements("its first leaf", pool, 0, 3, 4, 8, 1, 5, 9);
        pool.step(1);
        dueElements("its second leaf", pool, 0, 3, 4, 8, 9, 14, 23);
        dueJob("its end", pool, 0, DONE, -1, 6, 0, SCAN);
        ForkPool one = filled(1, SHORT, 7);
        one.begin(SCAN, 0, 0, 0, 0);
        Checks.due("a single leaf in each round", one.join(0), 2);
        dueElements("a single leaf", one, 0, 7);
    }

    private static void scanKeepsFirstRoundsForks() {
        Checks.part("promises 5 and 6, SCAN's forks");
        ForkPool pool = filled(1, INT, 1, 1, 1, 1, 1, 1, 1, 1);
        pool.grain(2);
        pool.begin(SCAN, 0, 0, 0, 0);
        pool.step(7);
        dueTask("the second round", pool, 0, 0, 0, 0, 8);
        pool.grain(24);
        Checks.due("forks whatever the grain is", pool.join(0), 7);
        dueElements("sums", pool, 0, 1, 2, 3, 4, 5, 6, 7, 8);
        pool.begin(SCAN, 0, 0, 0, 0);
        pool.step(1);
        pool.grain(1);
        Checks.due("a leaf stays one, whatever the grain is", pool.join(1), 1);
        dueElements("sums", pool, 0, 1, 3, 6, 10, 15, 21, 28, 36);
    }

    private static void scanKeepsPartialSums() {
        Checks.part("promises 5 and 6, SCAN's sums");
        for (int type : new int[] {FLOAT, DOUBLE}) {
            ForkPool pool = filled(2, type, -TOP, 0, 0, 0, TOP, 8, 1, 1);
            pool.grain(2);
            pool.begin(SCAN, 0, 0, 0, 0);
            pool.join(0);
            dueElements("bases of kept results", pool, 0, -TOP, -TOP, -TOP, -TOP, 0, 8, 1, 2);
            fill(pool, 0, type, -TOP, 0, 0, 0, TOP, 8, 1, 1);
            pool.grain(8);
            pool.begin(SCAN, 0, 0, 0, 0);
            pool.join(1);
            dueElements("one leaf", pool, 0, -TOP, -TOP, -TOP, -TOP, 0, 8, 9, 10);
            fill(pool, 0, type, TOP, 0, 8, -16);
            pool.grain(1);
            pool.begin(SCAN, 0, 0, 0, 0);
            pool.join(2);
            dueElements("a base is kept", pool, 0, TOP, TOP, TOP, TOP - 16);
        }
        ForkPool bytes = filled(3, BYTE, 100, 100, 100);
        bytes.grain(1);
        bytes.begin(SCAN, 0, 2, 0, 0);
        bytes.join(0);
        dueElements("bytes wrap", bytes, 0, 100, -56, 44);
    }

    /** Worker 1 does the last leaf of the first round, so the second round begins at the top of its queue. */
    private static void scanSecondRoundIsWithTheEnder() {
        Checks.part("promises 5 and 6, SCAN's ender");
        ForkPool pool = filled(2, INT, 1, 2, 3, 4, 5);
        pool.begin(SCAN, 0, 1, 0, 0);
        pool.step(1);
        Checks.due("0 has forked", pool.worker(0, 0), 2);
        pool.array(1, INT, 2);
        pool.begin(SUM, 1, 1, 0, 0);
        pool.step(2);
        Checks.due("1 has done the other job", pool.job(1, 0), DONE);
        pool.array(2, INT, 2);
        pool.begin(SUM, 2, 0, 0, 0);
        pool.step(1);
        dueTask("1 has stolen the last leaf", pool, 1, 0, 0, 0, 5);
        dueTask("0 has its own task", pool, 0, 0, 2, 0, 2);
        Checks.due("queue of 0", pool.worker(0, 0), 1);
        Checks.due("queue of 1", pool.worker(1, 0), 1);
    }

    private static void sortByStages() {
        Checks.part("promises 5 and 6, SORT");
        ForkPool pool = filled(1, INT, 6, 5, 4, 3, 2, 1);
        pool.grain(2);
        pool.begin(SORT, 0, 0, 0, 0);
        pool.step(4);
        dueElements("the first three are joined", pool, 0, 4, 5, 6, 3, 2, 1);
        pool.step(2);
        dueElements("a leaf of one", pool, 0, 4, 5, 6, 3, 2, 1);
        pool.step(1);
        dueElements("all are joined", pool, 0, 1, 2, 3, 4, 5, 6);
        dueJob("done", pool, 0, DONE, -1, 7, 0, SORT);
        fill(pool, 0, LONG, 0, Long.MAX_VALUE, Long.MIN_VALUE, -1, 0, 1);
        pool.begin(SORT, 0, 0, 0, 0);
        pool.join(1);
        dueElements("far apart", pool, 0, Long.MIN_VALUE, -1, 0, 0, 1, Long.MAX_VALUE);
        fill(pool, 0, FLOAT, 8, -8, 1, -1);
        pool.begin(SORT, 0, 0, 0, 0);
        pool.join(2);
        dueElements("eighths", pool, 0, -8, -1, 1, 8);
    }

    private static void dueChanged(String call, int kind, int c, int d, int type, long[] values, long... want) {
        ForkPool pool = filled(2, type, values);
        pool.begin(kind, 0, 0, c, d);
        pool.join(0);
        dueElements(call, pool, 0, want);
    }

    private static void mapByType() {
        Checks.part("promises 5 and 6, MAP");
        dueChanged("bytes", MAP, 3, -5, BYTE, new long[] {1, 100, -128, 0, 7}, -2, 39, 123, -5, 16);
        dueChanged("shorts", MAP, 1000, 1000, SHORT, new long[] {32, 33, -33}, -32536, -31536, -32000);
        dueChanged("ints", MAP, -1000, 7, INT, new long[] {Integer.MIN_VALUE, 2147484, 1}, 7, 2147483303L, -993);
        dueChanged("longs", MAP, 2, 1, LONG, new long[] {Long.MAX_VALUE, Long.MIN_VALUE, 4}, -1, 1, 9);
        for (int type : new int[] {FLOAT, DOUBLE}) {
            dueChanged("eighths", MAP, 2, -3, type, new long[] {0, 1, -1, 8}, -24, -22, -26, -8);
            dueChanged("far", MAP, 1000, 0, type, new long[] {524, 525, -525}, 524000, TOP, -TOP);
            dueChanged("kept once", MAP, 2, -1000, type, new long[] {TOP, -TOP}, TOP, -TOP);
            dueChanged("exact before", MAP, 1, -1000, type, new long[] {TOP}, TOP - 8000);
        }
        dueChanged("by 0", MAP, 0, 9, INT, new long[] {1, 2}, 9, 9);
    }

    private static void shareByType() {
        Checks.part("promises 5 and 6, SHARE");
        dueChanged("toward 0", SHARE, 7, 0, INT, new long[] {2, -2, 8, -8, 7, -7}, 3, -3, 0, 0, 1, -1);
        dueChanged("toward 0 from below", SHARE, -7, 9, LONG, new long[] {2, -2, Long.MIN_VALUE, -1}, -3, 3, 0, 7);
        dueChanged("kept as a byte", SHARE, 1000, 0, BYTE, new long[] {1, -1, 7, 8}, -24, 24, -114, 125);
        dueChanged("kept as a short", SHARE, -1000, 0, SHORT, new long[] {1, -32768}, -1000, 0);
        for (int type : new int[] {FLOAT, DOUBLE}) {
            dueChanged("down", SHARE, 1, 0, type, new long[] {24, -24, 16, -16, 3, -3}, 2, -3, 4, -4, 21, -22);
            dueChanged("down from below", SHARE, -1, 0, type, new long[] {24, -24, TOP, -TOP}, -3, 2, -1, 0);
            dueChanged("the farthest", SHARE, 1000, 0, type, new long[] {1, -1}, 64000, -64000);
            dueChanged("of 0", SHARE, 0, 0, type, new long[] {1, -1}, 0, 0);
        }
    }

    private static void shareFailure() {
        Checks.part("promises 5 and 6, FAILURE");
        ForkPool pool = filled(1, INT, 1, 2, 0, 4, 5, 0);
        pool.array(1, INT, 3);
        pool.begin(SUM, 1, 0, 0, 0);
        pool.begin(SHARE, 0, 0, 100, 0);
        Checks.due("up to the failure", pool.step(2), 2);
        dueElements("those before it are changed", pool, 0, 100, 50, 0, 4, 5, 0);
        dueJob("failed", pool, 1, FAILED, 2, 2, 0, SHARE);
        dueTask("the other job's task stays", pool, 0, 0, 0, 0, 3);
        Checks.due("only it stays", pool.worker(0, 0), 1);
        Checks.due("the array is free", pool.set(0, 2, 3), 3);
        ForkPool eighths = filled(1, DOUBLE, 8, 0, 8);
        eighths.begin(SHARE, 0, 0, 2, 0);
        Checks.dueThrows("join", Checks.ARITHMETIC, () -> eighths.join(0));
        dueElements("eighths", eighths, 0, 16, 0, 8);
        Checks.due("the index", eighths.job(0, 1), 1);
    }
}
