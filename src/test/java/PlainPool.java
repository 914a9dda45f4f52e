import java.math.BigDecimal;
import java.math.BigInteger;
import java.math.RoundingMode;
import java.util.ArrayList;
import java.util.Collections;
import java.util.HashMap;
import java.util.HashSet;
import java.util.LinkedList;
import java.util.List;
import java.util.Map;
import java.util.NoSuchElementException;
import java.util.Set;

/**
 * The document a second time, by other means than the program's, for StormTest to compare with:
 * exact numbers instead of eighths, tasks named by their paths, and what is over kept in sets.
 */
final class PlainPool {
    private static final BigDecimal EIGHT = BigDecimal.valueOf(8);
    private static final BigDecimal FARTHEST = BigDecimal.valueOf(65536);

    private record Part(int job, int round, String path, int from, int to, BigDecimal base) {
    }

    private static final class Numbers {
        int type;
        BigDecimal[] at;
    }

    private static final class Work {
        int kind;
        int array;
        int c;
        int d;
        int state = 0;
        int failedAt = -1;
        int done = 0;
        BigDecimal result;
        final Map<String, BigDecimal> results = new HashMap<>();
        final Set<String> forked = new HashSet<>();
        final Set<String> over = new HashSet<>();
    }

    private final int workers;
    private final Numbers[] arrays = new Numbers[4];
    private final List<Work> works = new ArrayList<>();
    private final List<LinkedList<Part>> queues = new ArrayList<>();
    private final int[] done;
    private final int[] stolen;
    private final int[] idle;
    private final int[] victim;
    private int steps = 0;
    private int grain = 4;

    PlainPool(int workers) {
        this.workers = workers < 1 ? 1 : workers > 4 ? 4 : workers;
        done = new int[this.workers];
        stolen = new int[this.workers];
        idle = new int[this.workers];
        victim = new int[this.workers];
        for (int i = 0; i < this.workers; i++) {
            victim[i] = i;
            queues.add(new LinkedList<>());
        }
    }

    long array(int array, int type, int length) {
        if (array < 0 || array > 3 || type < 0 || type > 5 || length < 1 || length > 24) {
            throw new IllegalArgumentException();
        }
        refuseRunning(array);
        arrays[array] = new Numbers();
        arrays[array].type = type;
        arrays[array].at = new BigDecimal[length];
        java.util.Arrays.fill(arrays[array].at, BigDecimal.ZERO);
        return length;
    }

    long set(int array, int index, long value) {
        get(array, index);
        refuseRunning(array);
        Numbers numbers = arrays[array];
        BigDecimal exact = BigDecimal.valueOf(value);
        numbers.at[index] = kept(numbers, numbers.type < 4 ? exact : exact.divide(EIGHT));
        return get(array, index);
    }

    long get(int array, int index) {
        if (array < 0 || array > 3 || arrays[array] == null || index < 0 || index >= arrays[array].at.length) {
            throw new NoSuchElementException();
        }
        return told(arrays[array], arrays[array].at[index]);
    }

    long begin(int kind, int array, int worker, int c, int d) {
        if (array < 0 || array > 3 || arrays[array] == null) {
            throw new NoSuchElementException();
        }
        if (kind < 0 || kind > 5 || worker < 0 || worker >= workers || Math.abs((long) c) > 1000
                || Math.abs((long) d) > 1000) {
            throw new IllegalArgumentException();
        }
        refuseRunning(array);
        if (works.size() == 12) {
            throw new IllegalStateException();
        }
        Work work = new Work();
        work.kind = kind;
        work.array = array;
        work.c = c;
        work.d = d;
        works.add(work);
        int number = works.size() - 1;
        queues.get(worker).addFirst(new Part(number, 1, "", 0, arrays[array].at.length, BigDecimal.ZERO));
        return number;
    }

    long step(int n) {
        if (n < 1 || n > 60) {
            throw new IllegalArgumentException();
        }
        long busy = 0;
        for (int i = 0; i < n; i++) {
            busy += turn() ? 1 : 0;
        }
        return busy;
    }

    long join(int job) {
        Work work = work(job);
        int before = steps;
        while (work.state == 0) {
            turn();
        }
        if (work.state == 2) {
            throw new ArithmeticException();
        }
        return steps - before;
    }

    long result(int job) {
        Work work = work(job);
        if (work.kind > 1) {
            throw new UnsupportedOperationException();
        }
        if (work.state != 1) {
            throw new IllegalStateException();
        }
        return work.result.longValueExact();
    }

    long cancel(int job) {
        Work work = work(job);
        if (work.state != 0) {
            throw new IllegalStateException();
        }
        long queued = job(job, 3);
        end(job, -1);
        return queued;
    }

    long job(int job, int what) {
        Work work = work(job);
        long queued = queues.stream().flatMap(List::stream).filter(part -> part.job == job).count();
        return pick(what, work.state, work.failedAt, work.done, queued, work.kind);
    }

    long task(int worker, int k, int what) {
        if (worker < 0 || worker >= workers || k < 0 || k >= queues.get(worker).size()) {
            throw new NoSuchElementException();
        }
        Part part = queues.get(worker).get(k);
        return pick(what, part.job, part.from, part.to);
    }

    long worker(int worker, int what) {
        if (worker < 0 || worker >= workers) {
            throw new NoSuchElementException();
        }
        return pick(what, queues.get(worker).size(), done[worker], stolen[worker], idle[worker], victim[worker]);
    }

    long grain(int newGrain) {
        if (newGrain < 1 || newGrain > 24) {
            throw new IllegalArgumentException();
        }
        long before = grain;
        grain = newGrain;
        return before;
    }

    long count(int what) {
        return pick(what, works.size(), steps, steps % workers, workers);
    }

    private static long pick(int what, long... facts) {
        if (what < 0 || what >= facts.length) {
            throw new IllegalArgumentException();
        }
        return facts[what];
    }

    private void refuseRunning(int array) {
        if (works.stream().anyMatch(work -> work.array == array && work.state == 0)) {
            throw new IllegalStateException();
        }
    }

    private Work work(int job) {
        if (job < 0 || job >= works.size()) {
            throw new NoSuchElementException();
        }
        return works.get(job);
    }

    private static long told(Numbers numbers, BigDecimal value) {
        return (numbers.type < 4 ? value : value.multiply(EIGHT)).longValueExact();
    }

    private static BigDecimal kept(Numbers numbers, BigDecimal exact) {
        if (numbers.type < 4) {
            int bits = 8 << numbers.type;
            BigInteger low = exact.toBigIntegerExact().mod(BigInteger.ONE.shiftLeft(bits));
            return new BigDecimal(low.testBit(bits - 1) ? low.subtract(BigInteger.ONE.shiftLeft(bits)) : low);
        }
        BigDecimal floor = exact.multiply(EIGHT).setScale(0, RoundingMode.FLOOR).divide(EIGHT);
        return floor.min(FARTHEST).max(FARTHEST.negate());
    }

    private boolean turn() {
        int me = steps % workers;
        steps++;
        if (!queues.get(me).isEmpty()) {
            perform(me, queues.get(me).removeFirst());
            return true;
        }
        for (int ahead = 1; ahead <= workers; ahead++) {
            int other = (victim[me] + ahead) % workers;
            if (other != me && !queues.get(other).isEmpty()) {
                victim[me] = other;
                stolen[me]++;
                perform(me, queues.get(other).removeLast());
                return true;
            }
        }
        idle[me]++;
        return false;
    }

    private void perform(int me, Part part) {
        Work work = works.get(part.job);
        done[me]++;
        work.done++;
        boolean forks = part.round == 1 ? part.to - part.from > grain : work.forked.contains(part.path);
        if (forks) {
            fork(me, part, work);
            return;
        }
        int failure = leaf(part, work);
        if (failure >= 0) {
            end(part.job, failure);
            return;
        }
        over(me, part.job, part.round, part.path);
    }

    private void fork(int me, Part part, Work work) {
        work.forked.add(part.path);
        int middle = Math.floorDiv(part.from + part.to, 2);
        BigDecimal secondBase = part.base;
        if (part.round == 2) {
            secondBase = kept(arrays[work.array], part.base.add(work.results.get(part.path + "0")));
        }
        LinkedList<Part> queue = queues.get(me);
        queue.addFirst(new Part(part.job, part.round, part.path + "1", middle, part.to, secondBase));
        queue.addFirst(new Part(part.job, part.round, part.path + "0", part.from, middle, part.base));
    }

    private int leaf(Part part, Work work) {
        Numbers numbers = arrays[work.array];
        List<BigDecimal> range = java.util.Arrays.asList(numbers.at).subList(part.from, part.to);
        if (work.kind == 1) {
            work.results.put(part.path, Collections.max(range));
        } else if (work.kind == 0 || (work.kind == 2 && part.round == 1)) {
            BigDecimal sum = BigDecimal.ZERO;
            for (BigDecimal element : range) {
                sum = kept(numbers, sum.add(element));
            }
            work.results.put(part.path, sum);
        } else if (work.kind == 3) {
            Collections.sort(range);
        } else {
            return change(part, work, numbers);
        }
        return -1;
    }

    private int change(Part part, Work work, Numbers numbers) {
        BigDecimal sum = part.base;
        BigDecimal c = BigDecimal.valueOf(work.c);
        for (int i = part.from; i < part.to; i++) {
            BigDecimal x = numbers.at[i];
            if (work.kind == 2) {
                sum = kept(numbers, sum.add(x));
                numbers.at[i] = sum;
            } else if (work.kind == 4) {
                numbers.at[i] = kept(numbers, c.multiply(x).add(BigDecimal.valueOf(work.d)));
            } else if (x.signum() == 0) {
                return i;
            } else if (numbers.type < 4) {
                numbers.at[i] = kept(numbers, c.divide(x, 0, RoundingMode.DOWN));
            } else {
                numbers.at[i] = kept(numbers, c.multiply(EIGHT).divide(x, 0, RoundingMode.FLOOR).divide(EIGHT));
            }
        }
        return -1;
    }

    private void over(int me, int job, int round, String path) {
        Work work = works.get(job);
        work.over.add(round + path);
        if (path.isEmpty()) {
            endRound(me, job, round);
            return;
        }
        String above = path.substring(0, path.length() - 1);
        if (work.over.contains(round + above + "0") && work.over.contains(round + above + "1")) {
            joined(work, round, above);
            over(me, job, round, above);
        }
    }

    private void joined(Work work, int round, String path) {
        Numbers numbers = arrays[work.array];
        BigDecimal first = work.results.get(path + "0");
        BigDecimal second = work.results.get(path + "1");
        if (work.kind == 1) {
            work.results.put(path, first.max(second));
        } else if (work.kind == 0 || (work.kind == 2 && round == 1)) {
            work.results.put(path, kept(numbers, first.add(second)));
        } else if (work.kind == 3) {
            int[] range = rangeOf(numbers.at.length, path);
            java.util.Arrays.sort(numbers.at, range[0], range[1]);
        }
    }

    private static int[] rangeOf(int length, String path) {
        int from = 0;
        int to = length;
        for (char side : path.toCharArray()) {
            int middle = (from + to) / 2;
            from = side == '0' ? from : middle;
            to = side == '0' ? middle : to;
        }
        return new int[] {from, to};
    }

    private void endRound(int me, int job, int round) {
        Work work = works.get(job);
        Numbers numbers = arrays[work.array];
        if (work.kind == 2 && round == 1) {
            queues.get(me).addFirst(new Part(job, 2, "", 0, numbers.at.length, BigDecimal.ZERO));
            return;
        }
        work.state = 1;
        if (work.kind < 2) {
            work.result = BigDecimal.valueOf(told(numbers, work.results.get("")));
        }
    }

    private void end(int job, int failedAt) {
        works.get(job).state = 2;
        works.get(job).failedAt = failedAt;
        queues.forEach(queue -> queue.removeIf(part -> part.job == job));
    }
}
