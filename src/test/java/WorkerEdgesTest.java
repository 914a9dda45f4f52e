/** The boundary cases of promises 6, 7, 11, 12 and 14 and of WORKERS; main names the sentence of each test. */
public final class WorkerEdgesTest extends PoolChecks {
    private static final int CALLS_OF_ONE_OBJECT = 512;

    private WorkerEdgesTest() {
    }

    public static void main(String[] args) {
        Checks.sentence("promise 6: IllegalArgumentException: out of range", WorkerEdgesTest::stepsOutOfRange);
        Checks.sentence("promise 6: Makes n (1 .. 60) steps", WorkerEdgesTest::stepMakesThatMany);
        Checks.sentence("promise 6: answers how many of them were not idle", WorkerEdgesTest::stepAnswersBusyOnes);
        Checks.sentence("promise 7: Makes steps until the job is DONE or FAILED", WorkerEdgesTest::joinEndsInTime);
        Checks.sentence("promise 7: answers how many", WorkerEdgesTest::joinAnswersHowMany);
        Checks.sentence("promise 7: no such job", WorkerEdgesTest::joinWithoutJob);
        Checks.sentence("promise 7: it has FAILED", WorkerEdgesTest::joinOfFailedJob);
        Checks.sentence("promise 7: (then, too, the steps have been made)", WorkerEdgesTest::joinFailsAfterItsSteps);
        Checks.sentence("WORKERS: in order 0, 1, .., w - 1, 0, ..", WorkerEdgesTest::turnsGoAround);
        Checks.sentence("WORKERS: with a task in its queue it takes the one at the top",
            WorkerEdgesTest::ownTopFirst);
        Checks.sentence("WORKERS: else, if there is one in another's queue, it STEALS",
            WorkerEdgesTest::stealsWhenEmpty);
        Checks.sentence("WORKERS: v being its VICTIM (at first itself)", WorkerEdgesTest::victimIsItselfAtFirst);
        Checks.sentence("WORKERS: of the workers v + 1, v + 2, .. around", WorkerEdgesTest::victimGoesAround);
        Checks.sentence("WORKERS: the first one with a task is its victim from then on",
            WorkerEdgesTest::victimStays);
        Checks.sentence("WORKERS: it takes the task at the BOTTOM of that queue", WorkerEdgesTest::stealsTheBottom);
        Checks.sentence("WORKERS: else it is IDLE", WorkerEdgesTest::idleWithoutAnyTask);
        Checks.sentence("promise 11: from 0, the top", WorkerEdgesTest::placesFromTheTop);
        Checks.sentence("promise 11: no such worker", WorkerEdgesTest::taskWithoutWorker);
        Checks.sentence("promise 11: no such worker or task", WorkerEdgesTest::taskOutOfRange);
        Checks.sentence("promise 11: another what", WorkerEdgesTest::taskOfAnotherWhat);
        Checks.sentence("promise 12: tasks in its queue (0)", WorkerEdgesTest::queueFromEmptyToLongest);
        Checks.sentence("promise 12: tasks done (1), of these stolen (2), idle steps (3)",
            WorkerEdgesTest::workersCounts);
        Checks.sentence("promise 12: no such worker", WorkerEdgesTest::workerOutOfRange);
        Checks.sentence("promise 12: another what", WorkerEdgesTest::workerOfAnotherWhat);
        Checks.sentence("promise 14: Jobs begun (0)", WorkerEdgesTest::countsJobs);
        Checks.sentence("promise 14: steps made (1)", WorkerEdgesTest::countsSteps);
        Checks.sentence("promise 14: the worker whose turn is next (2)", WorkerEdgesTest::countsTurns);
        Checks.sentence("promise 14: another number", WorkerEdgesTest::countOfAnotherNumber);
        Checks.end();
    }

    /** Four arrays of one element, so that each job is a single leaf and ends with the step that takes it. */
    private static ForkPool withLeaves(int workers) {
        ForkPool pool = new ForkPool(workers);
        for (int array = 0; array < 4; array++) {
            fill(pool, array, INT, array + 1);
        }
        return pool;
    }

    private static void stepsOutOfRange() {
        dueTakenOnly("n", 1, 60, Checks.ILLEGAL_ARGUMENT, n -> new ForkPool(2).step(n));
    }

    private static void stepMakesThatMany() {
        for (int n : new int[] {1, 2, 59, 60}) {
            ForkPool pool = new ForkPool(3);
            pool.step(n);
            Checks.due("step(" + n + ")", pool.count(1), n);
        }
        ForkPool refused = begun(1, 5, SUM);
        Checks.dueThrows("step(0)", Checks.ILLEGAL_ARGUMENT, () -> refused.step(0));
        Checks.dueThrows("step(61)", Checks.ILLEGAL_ARGUMENT, () -> refused.step(61));
        Checks.due("a refused one makes none", refused.count(1), 0);
        Checks.due("a refused one does none", refused.job(0, 2), 0);
    }

    /** Two SUMs of 24 elements are 47 tasks each with the grain 1, so the first 60 steps of 94 are all busy. */
    private static void stepAnswersBusyOnes() {
        Checks.due("none of 1", new ForkPool(2).step(1), 0);
        Checks.due("none of 60", new ForkPool(2).step(60), 0);
        Checks.due("1 of 1", begun(1, 4, SUM).step(1), 1);
        Checks.due("1 of 2", begun(1, 4, SUM).step(2), 1);
        ForkPool pool = begun(2, 24, SUM);
        pool.array(1, INT, 24);
        pool.begin(SUM, 1, 1, 0, 0);
        pool.grain(1);
        Checks.due("60 of 60", pool.step(60), 60);
        Checks.due("33 of 33", pool.step(33), 33);
        Checks.due("1 of 60", pool.step(60), 1);
        Checks.due("none is left", pool.step(60), 0);
    }

    private static void joinEndsInTime() {
        ForkPool pool = begun(1, 5, SUM);
        pool.array(1, INT, 5);
        pool.begin(SUM, 1, 0, 0, 0);
        pool.join(1);
        dueJob("joined", pool, 1, DONE, -1, 3, 0);
        dueJob("not a step more", pool, 0, RUNNING, -1, 0, 1);
        pool.join(0);
        dueJob("joined", pool, 0, DONE, -1, 3, 0);
        dueWorker("no idle step", pool, 0, 0, 6, 0, 0, 0);
        ForkPool scan = begun(1, 5, SCAN);
        scan.join(0);
        dueElements("both rounds", scan, 0, 1, 3, 6, 10, 15);
        ForkPool failing = filled(1, INT, 0, 1, 1, 1, 1);
        failing.array(1, INT, 1);
        failing.begin(SUM, 1, 0, 0, 0);
        failing.begin(SHARE, 0, 0, 1, 0);
        Checks.dueThrows("FAILED", Checks.ARITHMETIC, () -> failing.join(1));
        dueJob("not a step more", failing, 0, RUNNING, -1, 0, 1);
    }

    private static void joinAnswersHowMany() {
        Checks.due("one leaf", begun(1, 4, SUM).join(0), 1);
        Checks.due("a fork and two leaves", begun(1, 5, SUM).join(0), 3);
        Checks.due("both rounds", begun(1, 5, SCAN).join(0), 6);
        ForkPool pool = begun(1, 5, SUM);
        pool.step(2);
        Checks.due("the last step", pool.join(0), 1);
        Checks.due("DONE already", pool.join(0), 0);
        Checks.due("steps made", pool.count(1), 3);
        ForkPool longest = begun(4, 24, SCAN);
        longest.grain(1);
        Checks.due("more than 60", longest.join(0), 94);
        ForkPool others = begun(1, 5, SUM);
        others.array(1, INT, 5);
        others.begin(SUM, 1, 0, 0, 0);
        Checks.due("another job's steps, too", others.join(0), 6);
    }

    private static void joinWithoutJob() {
        Checks.dueThrows("without any", Checks.NO_SUCH_ELEMENT, () -> new ForkPool(1).join(0));
        dueTakenOnly("of one, job", 0, 0, Checks.NO_SUCH_ELEMENT, job -> begun(1, 5, SUM).join(job));
        dueTakenOnly("of four, job", 0, 3, Checks.NO_SUCH_ELEMENT, job -> {
            ForkPool pool = withLeaves(1);
            for (int array = 0; array < 4; array++) {
                pool.begin(SUM, array, 0, 0, 0);
            }
            return pool.join(job);
        });
    }

    private static void joinOfFailedJob() {
        ForkPool pool = filled(1, INT, 1, 0);
        pool.begin(SHARE, 0, 0, 1, 0);
        pool.step(1);
        Checks.dueThrows("FAILED already", Checks.ARITHMETIC, () -> pool.join(0));
        Checks.dueThrows("and again", Checks.ARITHMETIC, () -> pool.join(0));
        pool.begin(SUM, 0, 0, 0, 0);
        pool.cancel(1);
        Checks.dueThrows("cancelled", Checks.ARITHMETIC, () -> pool.join(1));
        Checks.due("no step is made for them", pool.count(1), 1);
        pool.set(0, 1, 1);
        pool.begin(SHARE, 0, 0, 1, 0);
        Checks.due("without a FAILURE", pool.join(2), 1);
    }

    private static void joinFailsAfterItsSteps() {
        ForkPool pool = filled(2, INT, 1, 1, 0, 1, 1, 1);
        pool.begin(SHARE, 0, 0, 60, 0);
        Checks.dueThrows("join", Checks.ARITHMETIC, () -> pool.join(0));
        Checks.due("steps made", pool.count(1), 3);
        Checks.due("whose turn", pool.count(2), 1);
        dueJob("the job", pool, 0, FAILED, 2, 3, 0);
        dueElements("what the steps have changed", pool, 0, 60, 60, 0, 60, 60, 60);
        dueWorker("the one that failed", pool, 0, 0, 2, 0, 0, 0);
        dueWorker("the other one", pool, 1, 0, 1, 1, 0, 0);
    }

    private static void turnsGoAround() {
        for (int workers = 1; workers <= 4; workers++) {
            ForkPool pool = new ForkPool(workers);
            for (int steps = 1; steps <= 2 * workers + 1; steps++) {
                pool.step(1);
                for (int worker = 0; worker < workers; worker++) {
                    int turns = (steps + workers - 1 - worker) / workers;
                    Checks.due(workers + ", turns of " + worker + " in " + steps, pool.worker(worker, 3), turns);
                }
            }
        }
    }

    private static void ownTopFirst() {
        ForkPool pool = withLeaves(2);
        pool.begin(SUM, 0, 0, 0, 0);
        pool.begin(SUM, 1, 0, 0, 0);
        pool.begin(SUM, 2, 1, 0, 0);
        pool.step(1);
        dueQueue("its own top", pool, 0, "0:0-1");
        dueQueue("not another's", pool, 1, "2:0-1");
        dueWorker("it is not stolen", pool, 0, 1, 1, 0, 0, 0);
        pool.step(2);
        dueQueue("its own last one", pool, 0, "");
        dueWorker("it is not stolen", pool, 0, 0, 2, 0, 0, 0);
    }

    private static void stealsWhenEmpty() {
        ForkPool pool = withLeaves(2);
        pool.begin(SUM, 0, 1, 0, 0);
        Checks.due("one in another's queue", pool.step(1), 1);
        dueWorker("it is stolen", pool, 0, 0, 1, 1, 0, 1);
        dueWorker("nothing is counted for the victim", pool, 1, 0, 0, 0, 0, 1);
        dueJob("it is done", pool, 0, DONE, -1, 1, 0);
        Checks.due("none in another's queue", pool.step(1), 0);
        dueWorker("none is stolen", pool, 1, 0, 0, 0, 1, 1);
    }

    private static void victimIsItselfAtFirst() {
        for (int workers = 1; workers <= 4; workers++) {
            ForkPool pool = new ForkPool(workers);
            for (int worker = 0; worker < workers; worker++) {
                Checks.due("at first", pool.worker(worker, 4), worker);
            }
            pool.step(8);
            for (int worker = 0; worker < workers; worker++) {
                Checks.due("after idle steps", pool.worker(worker, 4), worker);
            }
        }
        ForkPool own = begun(2, 5, SUM);
        own.step(1);
        Checks.due("after a task of its own", own.worker(0, 4), 0);
    }

    /** All but one of four workers have a task: the thief takes from the one behind it, be it the last or the first. */
    private static void victimGoesAround() {
        for (int thief = 0; thief < 4; thief++) {
            ForkPool pool = withLeaves(4);
            for (int i = 0; i < thief; i++) {
                pool.step(1);
            }
            for (int away = 1; away <= 3; away++) {
                pool.begin(SUM, away, (thief + away) % 4, 0, 0);
            }
            pool.step(1);
            Checks.due("thief " + thief + ", v + 1", pool.worker(thief, 4), (thief + 1) % 4);
        }
        for (int away = 1; away <= 3; away++) {
            for (int thief = 0; thief < 4; thief++) {
                ForkPool pool = withLeaves(4);
                for (int i = 0; i < thief; i++) {
                    pool.step(1);
                }
                pool.begin(SUM, 0, (thief + away) % 4, 0, 0);
                pool.step(1);
                Checks.due("thief " + thief + ", v + " + away, pool.worker(thief, 4), (thief + away) % 4);
            }
        }
    }

    private static void victimStays() {
        ForkPool pool = withLeaves(3);
        pool.begin(SUM, 0, 2, 0, 0);
        pool.step(1);
        Checks.due("0 has stolen from 2", pool.worker(0, 4), 2);
        pool.step(3);
        Checks.due("after an idle step", pool.worker(0, 4), 2);
        pool.step(2);
        pool.begin(SUM, 0, 0, 0, 0);
        pool.step(1);
        Checks.due("after a task of its own", pool.worker(0, 4), 2);
        pool.step(2);
        pool.begin(SUM, 0, 2, 0, 0);
        pool.begin(SUM, 1, 1, 0, 0);
        pool.step(1);
        Checks.due("behind 2 and 0 itself comes 1", pool.worker(0, 4), 1);
        pool.step(2);
        pool.begin(SUM, 0, 1, 0, 0);
        pool.step(1);
        Checks.due("behind 1, all around, 1 again", pool.worker(0, 4), 1);
        Checks.due("tasks stolen by 0", pool.worker(0, 2), 3);
    }

    private static void stealsTheBottom() {
        ForkPool pool = withLeaves(2);
        for (int array = 0; array < 3; array++) {
            pool.begin(SUM, array, 1, 0, 0);
        }
        dueQueue("three", pool, 1, "2:0-1 1:0-1 0:0-1");
        pool.step(1);
        dueQueue("without the bottom", pool, 1, "2:0-1 1:0-1");
        pool.step(1);
        dueQueue("without its owner's top", pool, 1, "1:0-1");
        pool.step(1);
        dueQueue("the only one is the bottom, too", pool, 1, "");
        dueWorker("the thief", pool, 0, 0, 2, 2, 0, 1);
    }

    private static void idleWithoutAnyTask() {
        for (int workers = 1; workers <= 4; workers++) {
            ForkPool pool = withLeaves(workers);
            Checks.due("nothing yet", pool.step(1), 0);
            dueWorker("nothing yet", pool, 0, 0, 0, 0, 1, 0);
            pool.begin(SUM, 0, 0, 0, 0);
            Checks.due("a single task", pool.step(workers + 1), 1);
            int idle = 0;
            for (int worker = 0; worker < workers; worker++) {
                idle += pool.worker(worker, 3);
            }
            Checks.due("idle steps of all", idle, workers + 1);
        }
        ForkPool alone = begun(1, 4, SUM);
        Checks.due("alone with a task", alone.step(1), 1);
        dueWorker("alone with a task", alone, 0, 0, 1, 0, 0, 0);
        Checks.due("alone without one", alone.step(1), 0);
        dueWorker("alone without one", alone, 0, 0, 1, 0, 1, 0);
    }

    private static void placesFromTheTop() {
        ForkPool pool = begun(1, 24, SUM);
        pool.array(1, INT, 3);
        pool.begin(SORT, 1, 0, 0, 0);
        dueTask("the top", pool, 0, 0, 1, 0, 3);
        dueTask("the bottom", pool, 0, 1, 0, 0, 24);
        pool.cancel(1);
        dueTask("top and bottom", pool, 0, 0, 0, 0, 24);
    }

    private static void taskWithoutWorker() {
        for (int w = 1; w <= 4; w++) {
            int workers = w;
            dueTakenOnly("of " + w + ", worker", 0, w - 1, Checks.NO_SUCH_ELEMENT, worker -> {
                ForkPool pool = withLeaves(workers);
                for (int array = 0; array < workers; array++) {
                    pool.begin(SUM, array, array, 0, 0);
                }
                return pool.task(worker, 0, 0);
            });
        }
    }

    private static void taskOutOfRange() {
        Checks.dueThrows("an empty queue", Checks.NO_SUCH_ELEMENT, () -> new ForkPool(1).task(0, 0, 0));
        Checks.dueThrows("another's task", Checks.NO_SUCH_ELEMENT, () -> begun(2, 5, SUM).task(1, 0, 0));
        for (int l = 1; l <= 4; l++) {
            int length = l;
            dueTakenOnly("of " + l + ", place", 0, l - 1, Checks.NO_SUCH_ELEMENT, k -> {
                ForkPool pool = withLeaves(1);
                for (int array = 0; array < length; array++) {
                    pool.begin(SUM, array, 0, 0, 0);
                }
                return pool.task(0, k, 0);
            });
        }
        ForkPool emptied = begun(1, 4, SUM);
        emptied.step(1);
        Checks.dueThrows("an emptied queue", Checks.NO_SUCH_ELEMENT, () -> emptied.task(0, 0, 0));
    }

    private static void taskOfAnotherWhat() {
        dueTakenOnly("what", 0, 2, Checks.ILLEGAL_ARGUMENT, what -> begun(1, 5, SUM).task(0, 0, what));
    }

    /** With the grain 1, the queue of a worker alone is longest when it is at the first elements of the array. */
    private static void queueFromEmptyToLongest() {
        ForkPool pool = new ForkPool(1);
        Checks.due("empty", pool.worker(0, 0), 0);
        pool.array(0, INT, 24);
        pool.begin(SUM, 0, 0, 0, 0);
        pool.grain(1);
        int[] lengths = {1, 2, 3, 4, 5, 4};
        for (int length : lengths) {
            Checks.due("queue", pool.worker(0, 0), length);
            pool.step(1);
        }
        pool.join(0);
        Checks.due("empty again", pool.worker(0, 0), 0);
    }

    private static void workersCounts() {
        ForkPool pool = begun(2, 5, SUM);
        dueWorker("0 at first", pool, 0, 1, 0, 0, 0, 0);
        dueWorker("1 at first", pool, 1, 0, 0, 0, 0, 1);
        pool.step(3);
        dueWorker("0 after 3", pool, 0, 0, 2, 0, 0, 0);
        dueWorker("1 after 3", pool, 1, 0, 1, 1, 0, 0);
        pool.step(2);
        dueWorker("0 after 5", pool, 0, 0, 2, 0, 1, 0);
        dueWorker("1 after 5", pool, 1, 0, 1, 1, 1, 0);
    }

    private static void workerOutOfRange() {
        for (int w = 1; w <= 4; w++) {
            int workers = w;
            dueTakenOnly("of " + w + ", worker", 0, w - 1, Checks.NO_SUCH_ELEMENT,
                worker -> new ForkPool(workers).worker(worker, 0));
        }
    }

    private static void workerOfAnotherWhat() {
        dueTakenOnly("what", 0, 4, Checks.ILLEGAL_ARGUMENT, what -> new ForkPool(2).worker(1, what));
    }

    private static void countsJobs() {
        ForkPool pool = filled(1, INT, 1);
        for (int jobs = 0; jobs < 12; jobs++) {
            Checks.due("begun", pool.count(0), jobs);
            pool.begin(SUM, 0, 0, 0, 0);
            Checks.dueThrows("refused", Checks.ILLEGAL_STATE, () -> pool.begin(SUM, 0, 0, 0, 0));
            pool.step(1);
        }
        Checks.due("all begun", pool.count(0), 12);
        Checks.dueThrows("a thirteenth", Checks.ILLEGAL_STATE, () -> pool.begin(SUM, 0, 0, 0, 0));
        Checks.due("all begun still", pool.count(0), 12);
    }

    private static void countsSteps() {
        ForkPool pool = begun(2, 5, SUM);
        Checks.due("none", pool.count(1), 0);
        pool.step(1);
        Checks.due("one", pool.count(1), 1);
        pool.join(0);
        Checks.due("those of a join", pool.count(1), 3);
        pool.join(0);
        Checks.due("none of a join of a DONE job", pool.count(1), 3);
        pool.step(60);
        Checks.due("idle ones, too", pool.count(1), 63);
        ForkPool most = new ForkPool(1);
        for (int call = 1; call < CALLS_OF_ONE_OBJECT; call++) {
            most.step(60);
        }
        Checks.due("as many as an object's calls can make", most.count(1), 60 * (CALLS_OF_ONE_OBJECT - 1));
    }

    private static void countsTurns() {
        for (int workers = 1; workers <= 4; workers++) {
            ForkPool pool = begun(workers, 5, SUM);
            for (int steps = 0; steps <= 2 * workers; steps++) {
                Checks.due(workers + ", after " + steps, pool.count(2), steps % workers);
                pool.step(1);
            }
            pool.begin(SUM, 0, 0, 0, 0);
            int before = pool.count(2);
            int made = pool.join(1);
            Checks.due(workers + ", after a join", pool.count(2), (before + made) % workers);
        }
    }

    private static void countOfAnotherNumber() {
        dueTakenOnly("what", 0, 3, Checks.ILLEGAL_ARGUMENT, what -> new ForkPool(2).count(what));
    }
}
