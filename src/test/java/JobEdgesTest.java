/** The boundary cases of promises 5, 8, 9 and 10, of jobs as such; main names the sentence of each test. */
public final class JobEdgesTest extends PoolChecks {
    private JobEdgesTest() {
    }

    public static void main(String[] args) {
        Checks.sentence("JOBS: numbered 0, 1, .. as they are begun", JobEdgesTest::numbersFollow);
        Checks.sentence("JOBS: at most 12 are", JobEdgesTest::twelveJobsRun);
        Checks.sentence("promise 5: at the top of the queue of the worker", JobEdgesTest::beginPutsOnTop);
        Checks.sentence("promise 5: no such array", JobEdgesTest::beginWithoutArray);
        Checks.sentence("promise 5: kind not 0 .. 5", JobEdgesTest::kindOutOfRange);
        Checks.sentence("promise 5: worker not 0 .. w - 1", JobEdgesTest::workerOutOfRange);
        Checks.sentence("promise 5: c or d not -1000 .. 1000, c", JobEdgesTest::cOutOfRange);
        Checks.sentence("promise 5: c or d not -1000 .. 1000, d", JobEdgesTest::dOutOfRange);
        Checks.sentence("promise 5: a job on it is neither DONE nor FAILED", JobEdgesTest::beginUnderJob);
        Checks.sentence("promise 5: or 12 were begun", JobEdgesTest::thirteenthJob);
        Checks.sentence("promise 8: no such job", JobEdgesTest::resultWithoutJob);
        Checks.sentence("promise 8: another kind", JobEdgesTest::resultOfAnotherKind);
        Checks.sentence("promise 8: it is not DONE", JobEdgesTest::resultBeforeDone);
        Checks.sentence("promise 8: The result of a SUM or GREATEST that is DONE", JobEdgesTest::resultStays);
        Checks.sentence("promise 9: as if it had FAILED, at the index -1", JobEdgesTest::cancelIsAFailure);
        Checks.sentence("promise 9: answers how many of its tasks were in queues", JobEdgesTest::cancelCountsTasks);
        Checks.sentence("promise 9: no such job", JobEdgesTest::cancelWithoutJob);
        Checks.sentence("promise 9: it is DONE or has FAILED", JobEdgesTest::cancelAfterTheEnd);
        Checks.sentence("promise 10: 0 running, 1 DONE, 2 FAILED", JobEdgesTest::stateTurnsAtTheEnd);
        Checks.sentence("promise 10: the index of the failure, -1 without one", JobEdgesTest::failureAtEachIndex);
        Checks.sentence("promise 10: tasks done", JobEdgesTest::tasksDoneByJob);
        Checks.sentence("promise 10: tasks in queues", JobEdgesTest::tasksInQueuesOfJob);
        Checks.sentence("promise 10: kind", JobEdgesTest::kindOfJob);
        Checks.sentence("promise 10: no such job", JobEdgesTest::jobOutOfRange);
        Checks.sentence("promise 10: another what", JobEdgesTest::jobOfAnotherWhat);
        Checks.end();
    }

    private static ForkPool made(int workers) {
        ForkPool pool = new ForkPool(workers);
        for (int array = 0; array < 4; array++) {
            fill(pool, array, INT, 1, 2, 3, 4, 5);
        }
        return pool;
    }

    /** So many jobs have been begun, on array 0, and all of them are over: DONE, FAILED and cancelled ones in turn. */
    private static ForkPool afterJobs(int jobs) {
        ForkPool pool = filled(1, INT, 0);
        for (int job = 0; job < jobs; job++) {
            pool.begin(job % 3 == 1 ? SHARE : SUM, 0, 0, 1, 0);
            if (job % 3 == 2) {
                pool.cancel(job);
            } else {
                pool.step(1);
            }
        }
        return pool;
    }

    private static void numbersFollow() {
        ForkPool pool = made(1);
        Checks.due("the first", pool.begin(SUM, 3, 0, 0, 0), 0);
        Checks.dueThrows("refused", Checks.ILLEGAL_STATE, () -> pool.begin(SUM, 3, 0, 0, 0));
        Checks.dueThrows("refused", Checks.ILLEGAL_ARGUMENT, () -> pool.begin(6, 2, 0, 0, 0));
        Checks.dueThrows("refused", Checks.NO_SUCH_ELEMENT, () -> pool.begin(SUM, 4, 0, 0, 0));
        Checks.due("the second", pool.begin(SUM, 0, 0, 0, 0), 1);
        pool.cancel(1);
        Checks.due("behind a cancelled one", pool.begin(SUM, 0, 0, 0, 0), 2);
        pool.join(2);
        Checks.due("behind one that is DONE", pool.begin(SUM, 0, 0, 0, 0), 3);
    }

    private static void twelveJobsRun() {
        ForkPool pool = made(1);
        for (int job = 0; job < 12; job++) {
            pool.set(job % 4, 0, 100 + job);
            Checks.due("begin", pool.begin(SUM, job % 4, 0, 0, 0), job);
            pool.join(job);
        }
        for (int job = 0; job < 12; job++) {
            Checks.due("result(" + job + ")", pool.result(job), 100 + job + 14);
        }
        Checks.due("jobs begun", pool.count(0), 12);
    }

    private static void beginPutsOnTop() {
        ForkPool pool = made(3);
        pool.begin(SUM, 0, 0, 0, 0);
        dueQueue("into an empty queue", pool, 0, "0:0-5");
        pool.begin(SUM, 1, 0, 0, 0);
        dueQueue("onto another", pool, 0, "1:0-5 0:0-5");
        pool.begin(SUM, 2, 0, 0, 0);
        dueQueue("onto two others", pool, 0, "2:0-5 1:0-5 0:0-5");
        pool.array(3, INT, 24);
        pool.begin(SUM, 3, 2, 0, 0);
        dueQueue("the last worker", pool, 2, "3:0-24");
        dueQueue("the worker between", pool, 1, "");
        ForkPool one = begun(1, 1, SUM);
        dueQueue("a single element", one, 0, "0:0-1");
    }

    private static void beginWithoutArray() {
        ForkPool pool = new ForkPool(1);
        for (int array = 0; array < 4; array++) {
            int unmade = array;
            Checks.dueThrows("before it is made", Checks.NO_SUCH_ELEMENT, () -> pool.begin(SUM, unmade, 0, 0, 0));
        }
        dueTakenOnly("array", 0, 3, Checks.NO_SUCH_ELEMENT, array -> made(1).begin(SUM, array, 0, 0, 0));
    }

    private static void kindOutOfRange() {
        dueTakenOnly("kind", 0, 5, Checks.ILLEGAL_ARGUMENT, kind -> made(1).begin(kind, 0, 0, 0, 0));
    }

    private static void workerOutOfRange() {
        for (int w = 1; w <= 4; w++) {
            int workers = w;
            dueTakenOnly("of " + w + ", worker", 0, w - 1, Checks.ILLEGAL_ARGUMENT,
                worker -> made(workers).begin(SUM, 0, worker, 0, 0));
        }
    }

    private static void cOutOfRange() {
        for (int k = SUM; k <= SHARE; k++) {
            int kind = k;
            dueTakenOnly("kind " + k + ", c", -1000, 1000, Checks.ILLEGAL_ARGUMENT, c -> {
                ForkPool pool = new ForkPool(1);
                pool.array(0, INT, 1);
                return pool.begin(kind, 0, 0, c, 0);
            });
        }
    }

    private static void dOutOfRange() {
        for (int k = SUM; k <= SHARE; k++) {
            int kind = k;
            dueTakenOnly("kind " + k + ", d", -1000, 1000, Checks.ILLEGAL_ARGUMENT, d -> {
                ForkPool pool = new ForkPool(1);
                pool.array(0, INT, 1);
                return pool.begin(kind, 0, 0, 0, d);
            });
        }
    }

    /** Five elements: a fork and two leaves, so that the third step is the one that ends a job of one round. */
    private static void beginUnderJob() {
        ForkPool pool = made(1);
        pool.begin(SUM, 0, 0, 0, 0);
        for (int steps = 0; steps < 3; steps++) {
            Checks.dueThrows("running, after " + steps, Checks.ILLEGAL_STATE, () -> pool.begin(SORT, 0, 0, 0, 0));
            pool.step(1);
        }
        Checks.due("DONE", pool.begin(SCAN, 0, 0, 0, 0), 1);
        for (int steps = 0; steps < 6; steps++) {
            Checks.dueThrows("a SCAN, after " + steps, Checks.ILLEGAL_STATE, () -> pool.begin(SORT, 0, 0, 0, 0));
            pool.step(1);
        }
        pool.set(0, 0, 0);
        Checks.due("a SCAN that is DONE", pool.begin(SHARE, 0, 0, 0, 0), 2);
        pool.step(1);
        Checks.dueThrows("before a FAILURE", Checks.ILLEGAL_STATE, () -> pool.begin(SUM, 0, 0, 0, 0));
        pool.step(1);
        Checks.due("FAILED", pool.begin(SUM, 0, 0, 0, 0), 3);
        pool.cancel(3);
        Checks.due("as if FAILED", pool.begin(SUM, 0, 0, 0, 0), 4);
        Checks.due("another array", pool.begin(SUM, 1, 0, 0, 0), 5);
        Checks.dueThrows("both are taken", Checks.ILLEGAL_STATE, () -> pool.begin(SUM, 0, 0, 0, 0));
        Checks.dueThrows("both are taken", Checks.ILLEGAL_STATE, () -> pool.begin(SUM, 1, 0, 0, 0));
    }

    private static void thirteenthJob() {
        Checks.due("the eleventh", afterJobs(10).begin(SUM, 0, 0, 0, 0), 10);
        Checks.due("the twelfth", afterJobs(11).begin(SUM, 0, 0, 0, 0), 11);
        ForkPool pool = afterJobs(12);
        Checks.dueThrows("the thirteenth", Checks.ILLEGAL_STATE, () -> pool.begin(SUM, 0, 0, 0, 0));
        pool.array(0, INT, 1);
        pool.array(1, INT, 1);
        Checks.dueThrows("on an array made anew", Checks.ILLEGAL_STATE, () -> pool.begin(SUM, 0, 0, 0, 0));
        Checks.dueThrows("on another array", Checks.ILLEGAL_STATE, () -> pool.begin(SUM, 1, 0, 0, 0));
        Checks.due("jobs begun", pool.count(0), 12);
    }

    private static void resultWithoutJob() {
        Checks.dueThrows("without any", Checks.NO_SUCH_ELEMENT, () -> made(1).result(0));
        dueTakenOnly("job", 0, 1, Checks.NO_SUCH_ELEMENT, job -> {
            ForkPool pool = made(1);
            pool.begin(SUM, 0, 0, 0, 0);
            pool.begin(SUM, 1, 0, 0, 0);
            pool.step(60);
            return pool.result(job);
        });
        dueTakenOnly("of twelve, job", 0, 11, Checks.NO_SUCH_ELEMENT, job -> {
            ForkPool pool = filled(1, INT, 7);
            for (int i = 0; i < 12; i++) {
                pool.begin(GREATEST, 0, 0, 0, 0);
                pool.step(1);
            }
            return pool.result(job);
        });
    }

    private static void resultOfAnotherKind() {
        for (int k = SUM; k <= SHARE; k++) {
            ForkPool pool = begun(1, 3, k);
            pool.join(0);
            if (k <= GREATEST) {
                Checks.due("kind " + k, pool.result(0), k == SUM ? 6 : 3);
            } else {
                Checks.dueThrows("kind " + k, Checks.UNSUPPORTED, () -> pool.result(0));
            }
        }
    }

    private static void resultBeforeDone() {
        for (int kind : new int[] {SUM, GREATEST}) {
            ForkPool pool = begun(1, 5, kind);
            for (int steps = 0; steps < 3; steps++) {
                Checks.dueThrows("after " + steps + " steps of 3", Checks.ILLEGAL_STATE, () -> pool.result(0));
                pool.step(1);
            }
            Checks.due("after 3 steps", pool.result(0), kind == SUM ? 15 : 5);
            pool.begin(kind, 0, 0, 0, 0);
            pool.step(2);
            pool.cancel(1);
            Checks.dueThrows("cancelled", Checks.ILLEGAL_STATE, () -> pool.result(1));
        }
    }

    private static void resultStays() {
        ForkPool pool = begun(1, 5, SUM);
        pool.join(0);
        pool.set(0, 0, 100);
        Checks.due("after a set", pool.result(0), 15);
        pool.array(0, BYTE, 1);
        Checks.due("after another array in its place", pool.result(0), 15);
        pool.begin(GREATEST, 0, 0, 0, 0);
        Checks.due("under another job", pool.result(0), 15);
        pool.join(1);
        Checks.due("behind another job", pool.result(0), 15);
        Checks.due("the other job's", pool.result(1), 0);
    }

    private static void cancelIsAFailure() {
        ForkPool pool = begun(2, 5, SUM);
        pool.array(1, INT, 2);
        pool.begin(SUM, 1, 0, 0, 0);
        pool.step(2);
        pool.cancel(0);
        dueJob("cancelled", pool, 0, FAILED, -1, 1, 0, SUM);
        Checks.dueThrows("join", Checks.ARITHMETIC, () -> pool.join(0));
        Checks.due("no step is made", pool.count(1), 2);
        Checks.due("the array is free", pool.set(0, 0, 9), 9);
        Checks.due("the other job goes on", pool.job(1, 0), DONE);
        Checks.due("its tasks are gone", pool.step(2), 0);
        ForkPool map = begun(1, 5, MAP);
        map.cancel(0);
        map.begin(MAP, 0, 0, 10, 0);
        map.step(2);
        map.cancel(1);
        dueElements("what was done stays", map, 0, 10, 20, 3, 4, 5);
    }

    private static void cancelCountsTasks() {
        Checks.due("just begun", begun(2, 24, SUM).cancel(0), 1);
        ForkPool forked = begun(2, 5, SUM);
        forked.step(1);
        Checks.due("forked", forked.cancel(0), 2);
        ForkPool last = begun(2, 5, SUM);
        last.step(2);
        Checks.due("one leaf before the end", last.cancel(0), 1);
        ForkPool spread = begun(2, 24, SUM);
        spread.grain(1);
        spread.step(2);
        Checks.due("in the queue of 0", spread.worker(0, 0), 1);
        Checks.due("in the queue of 1", spread.worker(1, 0), 2);
        spread.array(1, INT, 1);
        spread.begin(SUM, 1, 1, 0, 0);
        Checks.due("in two queues, without another job's", spread.cancel(0), 3);
        dueQueue("the other job's stays", spread, 1, "1:0-1");
        dueQueue("none stays", spread, 0, "");
        ForkPool scan = begun(1, 5, SCAN);
        scan.step(3);
        Checks.due("between the rounds", scan.cancel(0), 1);
        Checks.due("no second round", scan.step(60), 0);
        dueElements("no second round", scan, 0, 1, 2, 3, 4, 5);
    }

    private static void cancelWithoutJob() {
        Checks.dueThrows("without any", Checks.NO_SUCH_ELEMENT, () -> made(1).cancel(0));
        dueTakenOnly("job", 0, 2, Checks.NO_SUCH_ELEMENT, job -> {
            ForkPool pool = made(1);
            for (int array = 0; array < 3; array++) {
                pool.begin(SUM, array, 0, 0, 0);
            }
            return pool.cancel(job);
        });
    }

    private static void cancelAfterTheEnd() {
        ForkPool done = begun(1, 5, SUM);
        done.step(2);
        Checks.due("a step before", done.cancel(0), 1);
        done.begin(SUM, 0, 0, 0, 0);
        done.step(3);
        Checks.dueThrows("DONE", Checks.ILLEGAL_STATE, () -> done.cancel(1));
        dueJob("it stays DONE", done, 1, DONE, -1);
        Checks.due("its result stays", done.result(1), 15);
        Checks.dueThrows("cancelled already", Checks.ILLEGAL_STATE, () -> done.cancel(0));
        ForkPool failed = filled(1, INT, 1, 0);
        failed.begin(SHARE, 0, 0, 1, 0);
        failed.step(1);
        Checks.dueThrows("FAILED", Checks.ILLEGAL_STATE, () -> failed.cancel(0));
        dueJob("it stays FAILED at its index", failed, 0, FAILED, 1);
    }

    private static void stateTurnsAtTheEnd() {
        for (int kind = SUM; kind <= SHARE; kind++) {
            ForkPool pool = begun(1, 5, kind);
            int steps = kind == SCAN ? 6 : 3;
            for (int i = 0; i < steps; i++) {
                Checks.due("kind " + kind + ", after " + i, pool.job(0, 0), RUNNING);
                pool.step(1);
            }
            Checks.due("kind " + kind + ", after " + steps, pool.job(0, 0), DONE);
        }
        ForkPool failing = filled(1, INT, 1, 1, 1, 1, 0);
        failing.begin(SHARE, 0, 0, 1, 0);
        failing.step(2);
        Checks.due("before the FAILURE", failing.job(0, 0), RUNNING);
        failing.step(1);
        Checks.due("at the FAILURE", failing.job(0, 0), FAILED);
    }

    private static void failureAtEachIndex() {
        for (int index = 0; index < 24; index++) {
            ForkPool pool = new ForkPool(1);
            pool.array(0, INT, 24);
            for (int i = 0; i < 24; i++) {
                pool.set(0, i, i == index ? 0 : 1);
            }
            pool.begin(SHARE, 0, 0, 1, 0);
            Checks.due("running", pool.job(0, 1), -1);
            pool.step(60);
            Checks.due("failed", pool.job(0, 1), index);
        }
        ForkPool without = begun(1, 5, SHARE);
        without.join(0);
        Checks.due("DONE", without.job(0, 1), -1);
        without.begin(SUM, 0, 0, 0, 0);
        without.cancel(1);
        Checks.due("cancelled", without.job(1, 1), -1);
    }

    private static void tasksDoneByJob() {
        ForkPool pool = begun(1, 5, SCAN);
        for (int steps = 0; steps <= 6; steps++) {
            Checks.due("after " + steps, pool.job(0, 2), steps);
            pool.step(1);
        }
        Checks.due("after an idle step", pool.job(0, 2), 6);
        pool.array(1, INT, 1);
        pool.begin(SUM, 1, 0, 0, 0);
        pool.step(1);
        Checks.due("after another job's", pool.job(0, 2), 6);
        Checks.due("the other job's", pool.job(1, 2), 1);
    }

    private static void tasksInQueuesOfJob() {
        ForkPool pool = begun(1, 5, SUM);
        pool.array(1, INT, 1);
        pool.begin(SUM, 1, 0, 0, 0);
        Checks.due("just begun", pool.job(0, 3), 1);
        pool.cancel(1);
        int[] queued = {2, 1, 0};
        for (int want : queued) {
            pool.step(1);
            Checks.due("after a step", pool.job(0, 3), want);
        }
        Checks.due("cancelled", pool.job(1, 3), 0);
        ForkPool spread = begun(2, 24, SUM);
        spread.grain(1);
        spread.step(2);
        Checks.due("in two queues", spread.job(0, 3), 3);
        ForkPool scan = begun(1, 5, SCAN);
        scan.step(3);
        Checks.due("between the rounds", scan.job(0, 3), 1);
    }

    private static void kindOfJob() {
        for (int kind = SUM; kind <= SHARE; kind++) {
            ForkPool pool = begun(1, 5, kind);
            Checks.due("running", pool.job(0, 4), kind);
            pool.join(0);
            Checks.due("DONE", pool.job(0, 4), kind);
        }
    }

    private static void jobOutOfRange() {
        Checks.dueThrows("without any", Checks.NO_SUCH_ELEMENT, () -> made(1).job(0, 0));
        dueTakenOnly("of one, job", 0, 0, Checks.NO_SUCH_ELEMENT, job -> begun(1, 5, SUM).job(job, 0));
        dueTakenOnly("of twelve, job", 0, 11, Checks.NO_SUCH_ELEMENT, job -> afterJobs(12).job(job, 0));
    }

    private static void jobOfAnotherWhat() {
        dueTakenOnly("what", 0, 4, Checks.ILLEGAL_ARGUMENT, what -> begun(1, 5, SUM).job(0, what));
        dueTakenOnly("of one that is over, what", 0, 4, Checks.ILLEGAL_ARGUMENT, what -> afterJobs(1).job(0, what));
    }
}
