/** The boundary cases of promises 1 to 4 and of the words under ARRAYS; main names the sentence of each test. */
public final class ArrayEdgesTest extends PoolChecks {
    private ArrayEdgesTest() {
    }

    public static void main(String[] args) {
        Checks.sentence("promise 1: Workers are clamped to 1 .. 4", ArrayEdgesTest::workersAreClamped);
        Checks.sentence("ARRAYS: ARRAYS 0 .. 3", ArrayEdgesTest::fourArraysStandApart);
        Checks.sentence("ARRAYS: a length 1 .. 24", ArrayEdgesTest::everyLengthHasItsElements);
        Checks.sentence("ARRAYS: its elements 0 at first", ArrayEdgesTest::elementsAreZeroAtFirst);
        Checks.sentence("ARRAYS: in calls and answers they stand in EIGHTHS", ArrayEdgesTest::eighthsStandAsTheyAre);
        Checks.sentence("ARRAYS: brought into its type by its lowest bits", ArrayEdgesTest::wholeNumbersWrap);
        Checks.sentence("ARRAYS: and then into -65536 .. 65536", ArrayEdgesTest::eighthsStayInRange);
        Checks.sentence("promise 2: Makes an array, in place of the one there", ArrayEdgesTest::arrayTakesThePlace);
        Checks.sentence("promise 2: answers its length", ArrayEdgesTest::arrayAnswersItsLength);
        Checks.sentence("promise 2: array not 0 .. 3", ArrayEdgesTest::arrayNumberOutOfRange);
        Checks.sentence("promise 2: type not 0 .. 5", ArrayEdgesTest::typeOutOfRange);
        Checks.sentence("promise 2: length not 1 .. 24", ArrayEdgesTest::lengthOutOfRange);
        Checks.sentence("promise 2: a job on it is neither DONE nor FAILED", ArrayEdgesTest::arrayUnderJob);
        Checks.sentence("promise 3: answers what is kept", ArrayEdgesTest::setAnswersWhatIsKept);
        Checks.sentence("promise 3: no such array", ArrayEdgesTest::setWithoutArray);
        Checks.sentence("promise 3: no such array or element", ArrayEdgesTest::setWithoutElement);
        Checks.sentence("promise 3: IllegalStateException: as before", ArrayEdgesTest::setUnderJob);
        Checks.sentence("promise 4: An element", ArrayEdgesTest::getUnderJob);
        Checks.sentence("promise 4: no such array", ArrayEdgesTest::getWithoutArray);
        Checks.sentence("promise 4: no such array or element", ArrayEdgesTest::getWithoutElement);
        Checks.end();
    }

    private static void workersAreClamped() {
        int[][] clamped = {{FAR[0], 1}, {-1, 1}, {0, 1}, {1, 1}, {2, 2}, {3, 3}, {4, 4}, {5, 4}, {6, 4}, {FAR[1], 4}};
        for (int[] pair : clamped) {
            ForkPool pool = new ForkPool(pair[0]);
            int workers = pair[1];
            String made = "ForkPool(" + pair[0] + ")";
            Checks.due(made + ", workers", pool.count(3), workers);
            Checks.due(made + ", the last one", pool.worker(workers - 1, 4), workers - 1);
            Checks.dueThrows(made + ", behind the last one", Checks.NO_SUCH_ELEMENT, () -> pool.worker(workers, 4));
            for (int turn = 0; turn < workers; turn++) {
                Checks.due(made + ", whose turn", pool.count(2), turn);
                pool.step(1);
            }
            Checks.due(made + ", the first one's turn again", pool.count(2), 0);
        }
    }

    private static void fourArraysStandApart() {
        ForkPool pool = new ForkPool(1);
        for (int array = 0; array < 4; array++) {
            pool.array(array, INT, array + 1);
            pool.set(array, array, 10 + array);
        }
        dueElements("array 0", pool, 0, 10);
        dueElements("array 1", pool, 1, 0, 11);
        dueElements("array 2", pool, 2, 0, 0, 12);
        dueElements("array 3", pool, 3, 0, 0, 0, 13);
        Checks.dueThrows("array 4", Checks.NO_SUCH_ELEMENT, () -> pool.get(4, 0));
        Checks.dueThrows("array -1", Checks.NO_SUCH_ELEMENT, () -> pool.get(-1, 0));
    }

    private static void everyLengthHasItsElements() {
        for (int length = 1; length <= 24; length++) {
            ForkPool pool = new ForkPool(1);
            int behind = length;
            pool.array(0, LONG, length);
            for (int i = 0; i < length; i++) {
                pool.set(0, i, 100 + i);
            }
            for (int i = 0; i < length; i++) {
                Checks.due("length " + length + ", element " + i, pool.get(0, i), 100 + i);
            }
            Checks.dueThrows("length " + length + ", behind it", Checks.NO_SUCH_ELEMENT, () -> pool.get(0, behind));
        }
    }

    private static void elementsAreZeroAtFirst() {
        for (int type = BYTE; type <= DOUBLE; type++) {
            ForkPool pool = new ForkPool(1);
            pool.array(3, type, 24);
            dueElements("type " + type, pool, 3, new long[24]);
        }
    }

    private static void eighthsStandAsTheyAre() {
        for (int type : new int[] {FLOAT, DOUBLE}) {
            ForkPool pool = filled(1, type, -9, -8, -7, -1, 0, 1, 7, 8, 9);
            dueElements("type " + type, pool, 0, -9, -8, -7, -1, 0, 1, 7, 8, 9);
        }
    }

    private static void dueKept(int type, long value, long want) {
        ForkPool pool = new ForkPool(1);
        pool.array(0, type, 1);
        pool.set(0, 0, value);
        Checks.due("type " + type + ", " + value + " is kept as", pool.get(0, 0), want);
    }

    private static void wholeNumbersWrap() {
        for (int type = BYTE; type <= INT; type++) {
            long all = 1L << (8 << type);
            long most = all / 2 - 1;
            long least = -all / 2;
            long[] within = {least, least + 1, -1, 0, 1, most - 1, most};
            for (long value : within) {
                dueKept(type, value, value);
                dueKept(type, value + all, value);
                dueKept(type, value - all, value);
            }
            dueKept(type, most + 1, least);
            dueKept(type, least - 1, most);
            dueKept(type, all, 0);
            dueKept(type, Long.MAX_VALUE, -1);
            dueKept(type, Long.MIN_VALUE, 0);
        }
        for (long value : new long[] {Long.MIN_VALUE, Long.MIN_VALUE + 1, -1, 0, Long.MAX_VALUE - 1, Long.MAX_VALUE}) {
            dueKept(LONG, value, value);
        }
    }

    private static void eighthsStayInRange() {
        for (int type : new int[] {FLOAT, DOUBLE}) {
            for (long value : new long[] {-TOP, -TOP + 1, TOP - 1, TOP}) {
                dueKept(type, value, value);
            }
            dueKept(type, TOP + 1, TOP);
            dueKept(type, -TOP - 1, -TOP);
            dueKept(type, Long.MAX_VALUE, TOP);
            dueKept(type, Long.MIN_VALUE, -TOP);
        }
    }

    private static void arrayTakesThePlace() {
        ForkPool pool = filled(1, INT, 301, 302, 303);
        fill(pool, 1, INT, 7);
        pool.array(0, INT, 3);
        dueElements("as long and of the same type", pool, 0, 0, 0, 0);
        fill(pool, 0, INT, 301, 302, 303);
        pool.array(0, INT, 2);
        dueElements("shorter by one", pool, 0, 0, 0);
        pool.array(0, INT, 4);
        dueElements("longer than ever", pool, 0, 0, 0, 0, 0);
        pool.array(0, BYTE, 4);
        Checks.due("of another type", pool.set(0, 3, 128), -128);
        pool.array(0, DOUBLE, 4);
        Checks.due("of another type again", pool.set(0, 3, TOP + 1), TOP);
        dueElements("the other array", pool, 1, 7);
    }

    private static void arrayAnswersItsLength() {
        ForkPool pool = new ForkPool(1);
        for (int length = 1; length <= 24; length++) {
            Checks.due("array(0, 2, " + length + ")", pool.array(0, INT, length), length);
        }
        Checks.due("array(0, 2, 1) behind a longer one", pool.array(0, INT, 1), 1);
    }

    private static void arrayNumberOutOfRange() {
        dueTakenOnly("array", 0, 3, Checks.ILLEGAL_ARGUMENT, array -> new ForkPool(1).array(array, INT, 1));
    }

    private static void typeOutOfRange() {
        dueTakenOnly("type", 0, 5, Checks.ILLEGAL_ARGUMENT, type -> new ForkPool(1).array(0, type, 1));
    }

    private static void lengthOutOfRange() {
        dueTakenOnly("length", 1, 24, Checks.ILLEGAL_ARGUMENT, length -> new ForkPool(1).array(0, INT, length));
    }

    /** Five elements: a fork and two leaves, so that the third step is the one that ends a job of one round. */
    private static void arrayUnderJob() {
        ForkPool pool = begun(1, 5, SUM);
        for (int steps = 0; steps < 3; steps++) {
            Checks.dueThrows("running, after " + steps, Checks.ILLEGAL_STATE, () -> pool.array(0, INT, 5));
            Checks.due("another array, after " + steps, pool.array(1, INT, 5), 5);
            pool.step(1);
        }
        Checks.due("DONE", pool.array(0, INT, 5), 5);
        ForkPool scan = begun(1, 5, SCAN);
        for (int steps = 0; steps < 6; steps++) {
            Checks.dueThrows("a SCAN, after " + steps, Checks.ILLEGAL_STATE, () -> scan.array(0, INT, 5));
            scan.step(1);
        }
        Checks.due("a SCAN that is DONE", scan.array(0, INT, 5), 5);
        scan.begin(SHARE, 0, 0, 1, 0);
        scan.step(1);
        Checks.dueThrows("before a FAILURE", Checks.ILLEGAL_STATE, () -> scan.array(0, INT, 5));
        scan.step(1);
        Checks.due("FAILED", scan.array(0, INT, 5), 5);
        int cancelled = scan.begin(SUM, 0, 0, 0, 0);
        scan.cancel(cancelled);
        Checks.due("as if FAILED", scan.array(0, INT, 5), 5);
        scan.begin(SUM, 0, 0, 0, 0);
        Checks.dueThrows("a later job on it", Checks.ILLEGAL_STATE, () -> scan.array(0, INT, 5));
    }

    private static void setAnswersWhatIsKept() {
        long[][] kept = {{BYTE, 127, 127}, {BYTE, 128, -128}, {SHORT, 32767, 32767}, {SHORT, 32768, -32768},
            {INT, 2147483647L, 2147483647L}, {INT, 2147483648L, -2147483648L}, {LONG, Long.MAX_VALUE, Long.MAX_VALUE},
            {FLOAT, TOP, TOP}, {FLOAT, TOP + 1, TOP}, {DOUBLE, -TOP, -TOP}, {DOUBLE, -TOP - 1, -TOP}};
        for (long[] row : kept) {
            ForkPool pool = new ForkPool(1);
            pool.array(0, (int) row[0], 3);
            Checks.due("type " + row[0] + ", set(0, 1, " + row[1] + ")", pool.set(0, 1, row[1]), row[2]);
            dueElements("type " + row[0] + ", its neighbours stay", pool, 0, 0, row[2], 0);
        }
    }

    private static ForkPool withoutArray1() {
        ForkPool pool = new ForkPool(1);
        for (int array : new int[] {0, 2, 3}) {
            pool.array(array, INT, 2);
        }
        return pool;
    }

    private static void setWithoutArray() {
        for (int array : new int[] {FAR[0], -1, 1, 4, FAR[1]}) {
            Checks.dueThrows("set(" + array + ", 0, 9)", Checks.NO_SUCH_ELEMENT,
                () -> withoutArray1().set(array, 0, 9));
        }
        for (int array : new int[] {0, 2, 3}) {
            Checks.due("set(" + array + ", 0, 9)", withoutArray1().set(array, 0, 9), 9);
        }
    }

    private static void setWithoutElement() {
        for (int length : new int[] {1, 2, 23, 24}) {
            dueTakenOnly("of " + length + ", index", 0, length - 1, Checks.NO_SUCH_ELEMENT, index -> {
                ForkPool pool = new ForkPool(1);
                pool.array(0, INT, 24);
                pool.array(0, INT, length);
                return pool.set(0, index, 9);
            });
        }
    }

    private static void setUnderJob() {
        ForkPool pool = begun(1, 5, SUM);
        pool.array(1, INT, 5);
        for (int steps = 0; steps < 3; steps++) {
            Checks.dueThrows("running, after " + steps, Checks.ILLEGAL_STATE, () -> pool.set(0, 4, 9));
            Checks.due("another array, after " + steps, pool.set(1, 4, 9), 9);
            pool.step(1);
        }
        Checks.due("DONE", pool.set(0, 4, 0), 0);
        pool.begin(SHARE, 0, 0, 1, 0);
        pool.step(2);
        Checks.dueThrows("before a FAILURE", Checks.ILLEGAL_STATE, () -> pool.set(0, 4, 9));
        pool.step(1);
        Checks.due("FAILED", pool.set(0, 4, 9), 9);
        int cancelled = pool.begin(SUM, 0, 0, 0, 0);
        Checks.dueThrows("before it is cancelled", Checks.ILLEGAL_STATE, () -> pool.set(0, 4, 8));
        pool.cancel(cancelled);
        Checks.due("as if FAILED", pool.set(0, 4, 8), 8);
    }

    private static void getUnderJob() {
        ForkPool pool = begun(1, 5, MAP);
        dueElements("running", pool, 0, 1, 2, 3, 4, 5);
        pool.cancel(0);
        pool.begin(MAP, 0, 0, 10, 0);
        pool.step(2);
        dueElements("after one of two leaves", pool, 0, 10, 20, 3, 4, 5);
        pool.step(1);
        dueElements("DONE", pool, 0, 10, 20, 30, 40, 50);
    }

    private static void getWithoutArray() {
        for (int array : new int[] {FAR[0], -1, 1, 4, FAR[1]}) {
            Checks.dueThrows("get(" + array + ", 0)", Checks.NO_SUCH_ELEMENT, () -> withoutArray1().get(array, 0));
        }
        for (int array : new int[] {0, 2, 3}) {
            Checks.due("get(" + array + ", 1)", withoutArray1().get(array, 1), 0);
        }
    }

    private static void getWithoutElement() {
        for (int length : new int[] {1, 2, 23, 24}) {
            dueTakenOnly("of " + length + ", index", 0, length - 1, Checks.NO_SUCH_ELEMENT, index -> {
                ForkPool pool = new ForkPool(1);
                pool.array(0, INT, 24);
                pool.array(0, INT, length);
                return pool.get(0, index);
            });
        }
    }
}
