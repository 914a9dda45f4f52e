/** The boundary cases of promises 13 and 15, of TASKS and of FAILURE; main names the sentence of each test. */
public final class TaskEdgesTest extends PoolChecks {
    private TaskEdgesTest() {
    }

    public static void main(String[] args) {
        Checks.sentence("promise 13: IllegalArgumentException: out of range", TaskEdgesTest::grainOutOfRange);
        Checks.sentence("promise 13: answers the one before", TaskEdgesTest::grainAnswersTheOneBefore);
        Checks.sentence("TASKS: 4 at first", TaskEdgesTest::grainIsFourAtFirst);
        Checks.sentence("TASKS: one task, for its whole array, 0 to length", TaskEdgesTest::firstTaskIsWhole);
        Checks.sentence("TASKS: if to - from is above the GRAIN", TaskEdgesTest::forksAboveTheGrain);
        Checks.sentence("TASKS: as it is when the task is done", TaskEdgesTest::grainOfTheMoment);
        Checks.sentence("TASKS: m = (from + to) / 2, rounded down", TaskEdgesTest::middleIsRoundedDown);
        Checks.sentence("TASKS: the second one, then the first one is put at the TOP",
            TaskEdgesTest::firstIsAtTheTop);
        Checks.sentence("TASKS: Else it is a LEAF: its part of the work is done at once, and it is over",
            TaskEdgesTest::leafIsDoneAtOnce);
        Checks.sentence("TASKS: When both tasks of one are over, what they come to is joined at once",
            TaskEdgesTest::joinedWhenBothAreOver);
        Checks.sentence("TASKS: When the first task of all is over, the job is DONE",
            TaskEdgesTest::doneWithTheFirstTask);
        Checks.sentence("TASKS: SCAN: when the first task is over, the second round begins",
            TaskEdgesTest::secondRound);
        Checks.sentence("TASKS: SCAN: at the top of the queue of the worker that ended it",
            TaskEdgesTest::endersQueue);
        Checks.sentence("TASKS: SCAN: forks likewise (whatever the grain is now)", TaskEdgesTest::forksLikewise);
        Checks.sentence("TASKS: SCAN: the base plus the result of the first", TaskEdgesTest::basesOfTheParts);
        Checks.sentence("TASKS: SCAN: The second round's end is the job's", TaskEdgesTest::secondRoundsEnd);
        Checks.sentence("FAILURE: the elements before it in the leaf are changed",
            TaskEdgesTest::changedBeforeFailure);
        Checks.sentence("FAILURE: the job has FAILED at the element's index", TaskEdgesTest::failedAtItsIndex);
        Checks.sentence("FAILURE: all its tasks are taken out of all queues", TaskEdgesTest::failureTakesTasksOut);
        Checks.sentence("promise 15: counted as done as soon as it is taken and done", TaskEdgesTest::countedAtOnce);
        Checks.sentence("promise 15: a leaf in which a FAILURE is, too", TaskEdgesTest::failingLeafCounts);
        Checks.sentence("promise 15: (as a stolen one, if it was)", TaskEdgesTest::stolenFailingLeafCounts);
        Checks.end();
    }

    private static ForkPool begunWithGrain(int grain, int length, int kind) {
        ForkPool pool = begun(1, length, kind);
        pool.grain(grain);
        return pool;
    }

    private static ForkPool sharing(int workers, long... values) {
        ForkPool pool = filled(workers, INT, values);
        pool.begin(SHARE, 0, 0, 60, 0);
        return pool;
    }

    private static void grainOutOfRange() {
        dueTakenOnly("grain", 1, 24, Checks.ILLEGAL_ARGUMENT, grain -> new ForkPool(1).grain(grain));
    }

    private static void grainAnswersTheOneBefore() {
        ForkPool pool = new ForkPool(1);
        Checks.due("grain(1)", pool.grain(1), 4);
        Checks.due("grain(24)", pool.grain(24), 1);
        Checks.dueThrows("grain(25)", Checks.ILLEGAL_ARGUMENT, () -> pool.grain(25));
        Checks.due("grain(24) behind a refused one", pool.grain(24), 24);
        Checks.dueThrows("grain(0)", Checks.ILLEGAL_ARGUMENT, () -> pool.grain(0));
        Checks.due("grain(1) behind a refused one", pool.grain(1), 24);
    }

    private static void grainIsFourAtFirst() {
        for (int length = 3; length <= 5; length++) {
            ForkPool pool = begun(1, length, SUM);
            pool.step(1);
            Checks.due("tasks of " + length + " after a step", pool.worker(0, 0), length > 4 ? 2 : 0);
        }
        Checks.due("the grain itself", new ForkPool(1).grain(9), 4);
    }

    private static void firstTaskIsWhole() {
        for (int length : new int[] {1, 2, 23, 24}) {
            for (int kind = SUM; kind <= SHARE; kind++) {
                dueQueue("kind " + kind, begun(1, length, kind), 0, "0:0-" + length);
            }
        }
    }

    private static void forksAboveTheGrain() {
        for (int grain = 1; grain <= 24; grain++) {
            for (int length = Math.max(1, grain - 1); length <= Math.min(24, grain + 1); length++) {
                ForkPool pool = begunWithGrain(grain, length, SUM);
                pool.step(1);
                Checks.due("grain " + grain + ", tasks of " + length, pool.worker(0, 0), length > grain ? 2 : 0);
                Checks.due("grain " + grain + ", state of " + length, pool.job(0, 0), length > grain ? RUNNING : DONE);
            }
        }
    }

    private static void grainOfTheMoment() {
        ForkPool later = begunWithGrain(24, 8, SUM);
        later.grain(7);
        later.step(1);
        dueQueue("begun under 24, done under 7", later, 0, "0:0-4 0:4-8");
        later.grain(3);
        later.step(1);
        dueQueue("put under 7, done under 3", later, 0, "0:0-2 0:2-4 0:4-8");
        later.step(2);
        later.grain(4);
        later.step(1);
        dueQueue("put under 7, done under 4", later, 0, "");
        Checks.due("the sum", later.result(0), 36);
        ForkPool leaf = begunWithGrain(1, 8, SUM);
        leaf.grain(8);
        leaf.step(1);
        Checks.due("begun under 1, done under 8", leaf.result(0), 36);
    }

    private static void middleIsRoundedDown() {
        String[] halves = {"", "", "0:0-1 0:1-2", "0:0-1 0:1-3", "0:0-2 0:2-4", "0:0-2 0:2-5"};
        for (int length = 2; length <= 5; length++) {
            ForkPool pool = begunWithGrain(1, length, SUM);
            pool.step(1);
            dueQueue("of " + length, pool, 0, halves[length]);
        }
        ForkPool longest = begunWithGrain(1, 24, SUM);
        longest.step(1);
        dueQueue("of 24", longest, 0, "0:0-12 0:12-24");
        ForkPool odd = begunWithGrain(1, 23, SUM);
        odd.step(1);
        dueQueue("of 23", odd, 0, "0:0-11 0:11-23");
        ForkPool behind = begunWithGrain(2, 7, SUM);
        behind.step(3);
        dueQueue("0 to 3 is over", behind, 0, "0:1-3 0:3-7");
        behind.step(2);
        dueQueue("3 to 7", behind, 0, "0:3-5 0:5-7");
        ForkPool uneven = begunWithGrain(2, 6, SUM);
        uneven.step(4);
        dueQueue("3 to 6", uneven, 0, "0:3-6");
        uneven.step(1);
        dueQueue("3 to 6 in parts", uneven, 0, "0:3-4 0:4-6");
    }

    private static void firstIsAtTheTop() {
        ForkPool pool = filled(1, INT, 1);
        pool.begin(SUM, 0, 0, 0, 0);
        pool.array(1, INT, 5);
        pool.begin(SUM, 1, 0, 0, 0);
        pool.step(1);
        dueQueue("above another job's", pool, 0, "1:0-2 1:2-5 0:0-1");
        ForkPool thief = begun(2, 5, SUM);
        thief.cancel(0);
        thief.begin(SUM, 0, 1, 0, 0);
        thief.step(1);
        dueQueue("the worker that does it", thief, 0, "1:0-2 1:2-5");
        dueQueue("not the one that it came from", thief, 1, "");
    }

    private static void leafIsDoneAtOnce() {
        ForkPool pool = filled(1, INT, 1, 2, 3, 4);
        pool.begin(MAP, 0, 0, 10, 0);
        Checks.due("one step", pool.step(1), 1);
        dueElements("after one step", pool, 0, 10, 20, 30, 40);
        Checks.due("it is over", pool.job(0, 0), DONE);
        ForkPool parts = filled(1, INT, 1, 2, 3, 4, 5);
        parts.begin(MAP, 0, 0, 10, 0);
        parts.step(1);
        dueElements("a fork changes nothing", parts, 0, 1, 2, 3, 4, 5);
        parts.step(1);
        dueElements("the first leaf", parts, 0, 10, 20, 3, 4, 5);
        parts.step(1);
        dueElements("the second leaf", parts, 0, 10, 20, 30, 40, 50);
    }

    private static void joinedWhenBothAreOver() {
        ForkPool pool = filled(1, INT, 8, 7, 6, 5, 4, 3, 2, 1);
        pool.grain(2);
        pool.begin(SORT, 0, 0, 0, 0);
        pool.step(3);
        dueElements("one of two is over", pool, 0, 7, 8, 6, 5, 4, 3, 2, 1);
        pool.step(1);
        dueElements("both are over", pool, 0, 5, 6, 7, 8, 4, 3, 2, 1);
        pool.step(2);
        dueElements("one of the other two", pool, 0, 5, 6, 7, 8, 3, 4, 2, 1);
        pool.step(1);
        dueElements("all are joined in one step", pool, 0, 1, 2, 3, 4, 5, 6, 7, 8);
        ForkPool stolen = filled(2, INT, 5, 4, 3, 2, 1);
        stolen.begin(SORT, 0, 0, 0, 0);
        stolen.step(2);
        dueElements("the second one first", stolen, 0, 5, 4, 1, 2, 3);
        Checks.due("one is not yet over", stolen.job(0, 0), RUNNING);
        stolen.step(1);
        dueElements("then the first one", stolen, 0, 1, 2, 3, 4, 5);
    }

    private static void doneWithTheFirstTask() {
        for (int length : new int[] {1, 2, 24}) {
            ForkPool pool = begunWithGrain(1, length, SUM);
            int tasks = 2 * length - 1;
            for (int i = 0; i < tasks; i++) {
                Checks.due("of " + length + ", after " + i, pool.job(0, 0), RUNNING);
                Checks.due("of " + length + ", a step", pool.step(1), 1);
            }
            Checks.due("of " + length + ", after " + tasks, pool.job(0, 0), DONE);
            Checks.due("of " + length + ", nothing is left", pool.step(1), 0);
        }
    }

    private static void secondRound() {
        ForkPool pool = begun(1, 5, SCAN);
        pool.step(2);
        dueQueue("a leaf before", pool, 0, "0:2-5");
        pool.step(1);
        dueQueue("at once", pool, 0, "0:0-5");
        Checks.due("it is running", pool.job(0, 0), RUNNING);
        dueElements("nothing is changed yet", pool, 0, 1, 2, 3, 4, 5);
        ForkPool one = begun(1, 1, SCAN);
        one.step(1);
        dueQueue("of one element", one, 0, "0:0-1");
        for (int kind : new int[] {SUM, GREATEST, SORT, MAP, SHARE}) {
            ForkPool other = begun(1, 5, kind);
            other.step(3);
            dueQueue("none for kind " + kind, other, 0, "");
        }
    }

    /** Worker 1 ends the first round with a task that it has stolen from worker 0, and has a task of its own below. */
    private static void endersQueue() {
        ForkPool pool = begun(2, 5, SCAN);
        pool.step(2);
        dueQueue("the first leaf is left", pool, 0, "0:0-2");
        pool.step(1);
        dueQueue("0 has ended it", pool, 0, "0:0-5");
        dueQueue("1 has not", pool, 1, "");
        ForkPool thief = begun(2, 5, SCAN);
        thief.array(1, INT, 1);
        thief.step(2);
        thief.begin(SUM, 1, 0, 0, 0);
        thief.step(1);
        Checks.due("0 was at its own", thief.job(1, 0), DONE);
        thief.step(1);
        dueQueue("1 has ended it", thief, 1, "0:0-5");
        dueQueue("0 has not", thief, 0, "");
        ForkPool above = filled(1, INT, 1, 2);
        above.begin(SUM, 0, 0, 0, 0);
        above.array(1, INT, 2);
        above.begin(SCAN, 1, 0, 0, 0);
        above.step(1);
        dueQueue("above another job's", above, 0, "1:0-2 0:0-2");
    }

    private static void forksLikewise() {
        ForkPool fine = begunWithGrain(1, 4, SCAN);
        fine.step(7);
        fine.grain(24);
        fine.step(1);
        dueQueue("forked under 1, under 24", fine, 0, "0:0-2 0:2-4");
        Checks.due("all seven tasks again", fine.step(60), 6);
        dueElements("sums", fine, 0, 1, 3, 6, 10);
        ForkPool coarse = begunWithGrain(24, 4, SCAN);
        coarse.step(1);
        coarse.grain(1);
        Checks.due("a leaf under 24, under 1", coarse.step(60), 1);
        dueElements("sums", coarse, 0, 1, 3, 6, 10);
        ForkPool mixed = begunWithGrain(2, 4, SCAN);
        mixed.step(1);
        mixed.grain(1);
        mixed.step(3);
        mixed.grain(2);
        mixed.step(1);
        mixed.grain(3);
        mixed.step(1);
        dueQueue("the second round", mixed, 0, "0:0-2 0:2-4");
        mixed.step(1);
        dueQueue("the first part has forked", mixed, 0, "0:0-1 0:1-2 0:2-4");
        mixed.grain(1);
        mixed.step(3);
        Checks.due("the second part has not", mixed.job(0, 0), DONE);
        dueElements("sums", mixed, 0, 1, 3, 6, 10);
    }

    private static void basesOfTheParts() {
        ForkPool pool = filled(1, INT, 10, 20, 30, 40);
        pool.grain(1);
        pool.begin(SCAN, 0, 0, 0, 0);
        pool.step(9);
        dueElements("before the first leaf", pool, 0, 10, 20, 30, 40);
        pool.step(1);
        dueElements("the base 0", pool, 0, 10, 20, 30, 40);
        pool.step(1);
        dueElements("the result of the first", pool, 0, 10, 30, 30, 40);
        pool.step(2);
        dueElements("the result of the first two", pool, 0, 10, 30, 60, 40);
        pool.step(1);
        dueElements("the base plus a result", pool, 0, 10, 30, 60, 100);
        ForkPool again = filled(1, INT, 1, 1);
        again.grain(1);
        for (int job = 0; job < 2; job++) {
            again.begin(SCAN, 0, 0, 0, 0);
            again.step(6);
        }
        dueElements("the base of a second job is 0 again", again, 0, 1, 3);
    }

    private static void secondRoundsEnd() {
        for (int length : new int[] {1, 2, 24}) {
            ForkPool pool = begunWithGrain(1, length, SCAN);
            int tasks = 2 * (2 * length - 1);
            for (int i = 0; i < tasks; i++) {
                Checks.due("of " + length + ", after " + i, pool.job(0, 0), RUNNING);
                pool.step(1);
            }
            Checks.due("of " + length + ", after " + tasks, pool.job(0, 0), DONE);
            Checks.due("of " + length + ", no third round", pool.step(1), 0);
        }
    }

    private static void changedBeforeFailure() {
        long[][] changed = {{0, 2, 3, 4}, {60, 0, 3, 4}, {60, 30, 0, 4}, {60, 30, 20, 0}};
        for (int at = 0; at < 4; at++) {
            long[] values = {1, 2, 3, 4};
            values[at] = 0;
            ForkPool pool = sharing(1, values);
            pool.step(1);
            dueElements("at " + at, pool, 0, changed[at]);
        }
        ForkPool twice = sharing(1, 1, 0, 0, 4);
        twice.step(1);
        dueElements("at the first of two", twice, 0, 60, 0, 0, 4);
        ForkPool later = sharing(1, 1, 2, 3, 4, 5, 0);
        later.step(60);
        dueElements("in the second leaf", later, 0, 60, 30, 20, 15, 12, 0);
        ForkPool earlier = sharing(1, 1, 0, 3, 4, 5, 6);
        earlier.step(60);
        dueElements("in the first leaf", earlier, 0, 60, 0, 3, 4, 5, 6);
    }

    private static void failedAtItsIndex() {
        ForkPool first = sharing(1, 0, 0, 1, 1, 1);
        first.step(60);
        dueJob("the first of all", first, 0, FAILED, 0);
        ForkPool last = sharing(1, 1, 1, 1, 1, 0);
        last.step(60);
        dueJob("the last of all", last, 0, FAILED, 4);
        ForkPool edge = sharing(1, 1, 1, 0, 1, 1);
        edge.step(60);
        dueJob("the first of the second leaf", edge, 0, FAILED, 2);
        ForkPool stolen = sharing(2, 1, 0, 1, 0, 1);
        stolen.step(60);
        dueJob("the second leaf is done first", stolen, 0, FAILED, 3);
    }

    /** The job that fails has tasks in the queues of 0 and 2; other jobs have some above them at 2, and at 1. */
    private static void failureTakesTasksOut() {
        ForkPool pool = filled(3, INT, 0, 1, 1, 1, 1, 1, 1, 1);
        for (int array = 1; array < 4; array++) {
            fill(pool, array, INT, 1, 2);
        }
        pool.begin(SUM, 1, 0, 0, 0);
        pool.begin(SHARE, 0, 0, 60, 0);
        pool.grain(1);
        pool.step(3);
        pool.step(3);
        pool.begin(SUM, 2, 2, 0, 0);
        pool.begin(SUM, 3, 1, 0, 0);
        dueQueue("before", pool, 0, "1:0-2 1:2-4");
        dueQueue("before", pool, 1, "3:0-2 0:1-2");
        dueQueue("before", pool, 2, "2:0-2 1:4-5 1:5-6 1:6-8");
        pool.step(3);
        dueQueue("a task of it is at the top of 0", pool, 0, "1:0-1 1:1-2 1:2-4");
        dueQueue("another job's at 2 is above", pool, 2, "2:0-1 2:1-2 1:4-5 1:5-6 1:6-8");
        pool.step(1);
        dueJob("FAILED", pool, 1, FAILED, 0);
        dueQueue("none is left at 0", pool, 0, "");
        dueQueue("another job's at 2 stay, in order", pool, 2, "2:0-1 2:1-2");
        dueQueue("another job's at 1 stay, in order", pool, 1, "3:0-1 3:1-2 0:1-2");
        Checks.due("in queues", pool.job(1, 3), 0);
        Checks.due("the others' are done", pool.step(60), 5);
    }

    private static void countedAtOnce() {
        ForkPool pool = begun(1, 5, SUM);
        for (int steps = 0; steps <= 3; steps++) {
            Checks.due("by the job, after " + steps, pool.job(0, 2), steps);
            Checks.due("by the worker, after " + steps, pool.worker(0, 1), steps);
            pool.step(1);
        }
        Checks.due("an idle step is none, job", pool.job(0, 2), 3);
        Checks.due("an idle step is none, worker", pool.worker(0, 1), 3);
        ForkPool cancelled = begun(1, 5, SUM);
        cancelled.step(1);
        cancelled.cancel(0);
        Checks.due("those taken out are not done, job", cancelled.job(0, 2), 1);
        Checks.due("those taken out are not done, worker", cancelled.worker(0, 1), 1);
    }

    private static void failingLeafCounts() {
        ForkPool pool = sharing(1, 1, 0, 1);
        Checks.due("its step is not idle", pool.step(1), 1);
        dueJob("by the job", pool, 0, FAILED, 1, 1, 0);
        dueWorker("by the worker, not as stolen", pool, 0, 0, 1, 0, 0, 0);
        ForkPool second = sharing(1, 1, 1, 1, 0, 1);
        second.step(60);
        dueJob("the second leaf", second, 0, FAILED, 3, 3, 0);
        dueWorker("the second leaf", second, 0, 0, 3, 0, 57, 0);
    }

    private static void stolenFailingLeafCounts() {
        ForkPool pool = sharing(2, 1, 1, 1, 1, 0);
        pool.step(2);
        dueJob("by the job", pool, 0, FAILED, 4, 2, 0);
        dueWorker("the thief", pool, 1, 0, 1, 1, 0, 0);
        dueWorker("its victim", pool, 0, 0, 1, 0, 0, 0);
    }
}
