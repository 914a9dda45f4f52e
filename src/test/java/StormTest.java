import java.util.Random;

/**
 * Long runs of calls, right and wrong ones mixed, on ForkPool and on PlainPool: each answer and each
 * exception must be the same. The seeds are fixed, so every run of this test makes the same calls.
 */
public final class StormTest {
    private static final int RUNS = 3000;
    private static final int CALLS_OF_ONE_OBJECT = 512;
    private static final int[] EDGES = {Integer.MIN_VALUE, -1001, -1000, -2, -1, 0, 1, 2, 3, 4, 5, 6, 11, 12, 23,
        24, 25, 60, 61, 1000, 1001, Integer.MAX_VALUE};
    private static final long[] VALUES = {Long.MIN_VALUE, Long.MAX_VALUE, -524289, -524288, 524288, 524289, 127, 128,
        -128, -129, 32767, 32768, -32769, Integer.MAX_VALUE, 1L << 31, -(1L << 31) - 1, 0, 1, -1};

    private final Random random;
    private final ForkPool pool;
    private final PlainPool plain;
    private final StringBuilder calls = new StringBuilder();

    private StormTest(int seed) {
        random = new Random(seed);
        int workers = random.nextInt(8) - 1;
        pool = new ForkPool(workers);
        plain = new PlainPool(workers);
        calls.append("new ForkPool(").append(workers).append(")");
    }

    public static void main(String[] args) {
        for (int seed = 0; seed < RUNS; seed++) {
            Checks.part("storm " + seed);
            StormTest storm = new StormTest(seed);
            for (int i = 0; i < CALLS_OF_ONE_OBJECT; i++) {
                storm.callOnce();
            }
        }
        Checks.end();
    }

    /** Mostly a number that fits, now and then one at or past an edge. */
    private int number(int least, int most) {
        return random.nextInt(25) == 0 ? EDGES[random.nextInt(EDGES.length)] : least + random.nextInt(most - least + 1);
    }

    private long value() {
        int way = random.nextInt(4);
        if (way == 0) {
            return VALUES[random.nextInt(VALUES.length)];
        }
        return way == 1 ? random.nextLong() : random.nextInt(2001) - 1000;
    }

    private void compare(String call, Checks.Call program, Checks.Call model) {
        String got = Checks.outcome(program);
        String want = Checks.outcome(model);
        calls.append("; ").append(call);
        Checks.dueText(got.equals(want) ? call : calls.toString(), got, want);
    }

    private void callOnce() {
        int way = random.nextInt(100);
        int array = number(0, 3);
        int job = number(0, 6);
        int worker = number(0, 3);
        if (way < 5) {
            int type = number(0, 5);
            int length = number(1, 24);
            compare("array(" + array + ", " + type + ", " + length + ")",
                () -> pool.array(array, type, length), () -> plain.array(array, type, length));
        } else if (way < 35) {
            int index = number(0, 23);
            long value = value();
            compare("set(" + array + ", " + index + ", " + value + ")",
                () -> pool.set(array, index, value), () -> plain.set(array, index, value));
        } else if (way < 55) {
            int index = number(0, 23);
            compare("get(" + array + ", " + index + ")", () -> pool.get(array, index), () -> plain.get(array, index));
        } else if (way < 60) {
            int kind = number(0, 5);
            int c = number(-1000, 1000);
            int d = number(-1000, 1000);
            compare("begin(" + kind + ", " + array + ", " + worker + ", " + c + ", " + d + ")",
                () -> pool.begin(kind, array, worker, c, d), () -> plain.begin(kind, array, worker, c, d));
        } else if (way < 68) {
            int n = random.nextInt(8) == 0 ? number(1, 60) : number(1, 6);
            compare("step(" + n + ")", () -> pool.step(n), () -> plain.step(n));
        } else {
            lookOrEnd(way, job, worker);
        }
    }

    private void lookOrEnd(int way, int job, int worker) {
        int what = number(0, 4);
        if (way < 70) {
            compare("join(" + job + ")", () -> pool.join(job), () -> plain.join(job));
        } else if (way < 73) {
            compare("result(" + job + ")", () -> pool.result(job), () -> plain.result(job));
        } else if (way < 74) {
            compare("cancel(" + job + ")", () -> pool.cancel(job), () -> plain.cancel(job));
        } else if (way < 80) {
            compare("job(" + job + ", " + what + ")", () -> pool.job(job, what), () -> plain.job(job, what));
        } else if (way < 88) {
            int k = number(0, 4);
            compare("task(" + worker + ", " + k + ", " + what + ")",
                () -> pool.task(worker, k, what), () -> plain.task(worker, k, what));
        } else if (way < 94) {
            compare("worker(" + worker + ", " + what + ")",
                () -> pool.worker(worker, what), () -> plain.worker(worker, what));
        } else if (way < 97) {
            int grain = random.nextInt(3) == 0 ? number(1, 24) : number(1, 4);
            compare("grain(" + grain + ")", () -> pool.grain(grain), () -> plain.grain(grain));
        } else {
            compare("count(" + what + ")", () -> pool.count(what), () -> plain.count(what));
        }
    }
}
