/** All that a pool shows of itself, as one text, for two pools to be compared. */
final class Sight {
    /** Cut differently by each type, so that an answer to it tells the type of the array. */
    private static final long TELLS_TYPES = 0x0000_0181_8181_8181L;

    private Sight() {
    }

    static String of(ForkPool pool) {
        StringBuilder seen = new StringBuilder();
        for (int what = 0; what < 4; what++) {
            seen.append(" count ").append(pool.count(what));
        }
        for (int worker = 0; worker < pool.count(3); worker++) {
            addWorker(seen, pool, worker);
        }
        for (int job = 0; job < pool.count(0); job++) {
            addJob(seen, pool, job);
        }
        for (int array = 0; array < 4; array++) {
            addElements(seen, pool, array);
        }
        int grain = pool.grain(24);
        pool.grain(grain);
        return seen.append(" grain ").append(grain).toString();
    }

    /** What can't be seen but by going on: the types of the arrays, whose turn it is, and what tasks come to. */
    static String after(ForkPool pool) {
        StringBuilder seen = new StringBuilder();
        for (int array = 0; array < 4; array++) {
            int here = array;
            seen.append(" set ").append(Checks.outcome(() -> pool.set(here, 0, TELLS_TYPES)));
        }
        seen.append(" steps ").append(pool.step(1)).append(of(pool));
        seen.append(" steps ").append(pool.step(60));
        for (int array = 0; array < 4; array++) {
            int here = array;
            seen.append(" set ").append(Checks.outcome(() -> pool.set(here, 0, TELLS_TYPES)));
            seen.append(" begin ").append(Checks.outcome(() -> pool.begin(0, here, 0, 0, 0)));
        }
        seen.append(" steps ").append(pool.step(60));
        return seen.append(of(pool)).toString();
    }

    private static void addWorker(StringBuilder seen, ForkPool pool, int worker) {
        seen.append("\n worker ").append(worker).append(':');
        for (int what = 0; what < 5; what++) {
            seen.append(' ').append(pool.worker(worker, what));
        }
        for (int k = 0; k < pool.worker(worker, 0); k++) {
            seen.append(" task ").append(pool.task(worker, k, 0)).append(':');
            seen.append(pool.task(worker, k, 1)).append('-').append(pool.task(worker, k, 2));
        }
    }

    private static void addJob(StringBuilder seen, ForkPool pool, int job) {
        seen.append("\n job ").append(job).append(':');
        for (int what = 0; what < 5; what++) {
            seen.append(' ').append(pool.job(job, what));
        }
        seen.append(" result ").append(Checks.outcome(() -> pool.result(job)));
    }

    private static void addElements(StringBuilder seen, ForkPool pool, int array) {
        seen.append("\n array ").append(array).append(':');
        boolean isThere = true;
        for (int i = 0; i < 25 && isThere; i++) {
            int index = i;
            String element = Checks.outcome(() -> pool.get(array, index));
            isThere = !element.startsWith("throws.");
            seen.append(' ').append(element);
        }
    }
}
