import java.util.Arrays;

/** The boundary cases of what jobs come to, under ARRAYS and JOBS; main names the sentence of each test. */
public final class KindEdgesTest extends PoolChecks {
    private static final int[] GRAINS = {1, 2, 24};
    private static final int[] IN_EIGHTHS = {FLOAT, DOUBLE};

    private KindEdgesTest() {
    }

    public static void main(String[] args) {
        Checks.sentence("ARRAYS: a multiple of an eighth, the greatest that is at most it",
            KindEdgesTest::keptIsAtMostIt);
        Checks.sentence("ARRAYS: Calculations are exact before that", KindEdgesTest::calculationsAreExact);
        Checks.sentence("ARRAYS: but for long they wrap", KindEdgesTest::longsWrap);
        Checks.sentence("JOBS: its RESULT is the sum of all elements", KindEdgesTest::sumOfOneAndOfMost);
        Checks.sentence("JOBS: A SUM adds up from the first element on", KindEdgesTest::sumGoesFromTheFirstOn);
        Checks.sentence("JOBS: every sum on the way", KindEdgesTest::sumsAreKept);
        Checks.sentence("JOBS: also of two results, is kept as an element is",
            KindEdgesTest::sumsOfTwoResultsAreKept);
        Checks.sentence("JOBS: the greatest element", KindEdgesTest::greatestAtEachPlace);
        Checks.sentence("JOBS: element k becomes the sum of the elements 0 to k", KindEdgesTest::scanOfOneAndOfMost);
        Checks.sentence("JOBS: each sum and partial sum kept as an element is", KindEdgesTest::scanKeepsEachSum);
        Checks.sentence("JOBS: the elements stand by rising size", KindEdgesTest::sortAtTheEdges);
        Checks.sentence("JOBS: each element x becomes c * x + d", KindEdgesTest::mapAtTheEdges);
        Checks.sentence("JOBS: c and d are whole numbers", KindEdgesTest::numbersAreWhole);
        Checks.sentence("JOBS: for 0 to 3 rounded toward 0", KindEdgesTest::shareTowardZero);
        Checks.sentence("JOBS: rounded down to a multiple of an eighth", KindEdgesTest::shareDown);
        Checks.sentence("JOBS: each element x becomes c / x", KindEdgesTest::shareIsKept);
        Checks.sentence("JOBS: 0 is a FAILURE at it", KindEdgesTest::shareByZero);
        Checks.end();
    }

    private static void dueChanged(String call, int kind, int c, int d, int type, long[] values, long... want) {
        for (int grain : GRAINS) {
            ForkPool pool = ended(kind, grain, c, d, type, values);
            Checks.due(call + ", grain " + grain + ", state", pool.job(0, 0), DONE);
            dueElements(call + ", grain " + grain, pool, 0, want);
        }
    }

    private static void dueResult(String call, int kind, int type, long want, long... values) {
        for (int grain : GRAINS) {
            Checks.due(call + ", grain " + grain, ended(kind, grain, 0, 0, type, values).result(0), want);
        }
    }

    private static long[] alike(int length, long value) {
        long[] values = new long[length];
        Arrays.fill(values, value);
        return values;
    }

    private static void keptIsAtMostIt() {
        for (int type : IN_EIGHTHS) {
            dueChanged("just above an eighth", SHARE, 1, 0, type, new long[] {63, -63}, 1, -2);
            dueChanged("an eighth", SHARE, 1, 0, type, new long[] {64, -64}, 1, -1);
            dueChanged("just below an eighth", SHARE, 1, 0, type, new long[] {65, -65}, 0, -1);
        }
    }

    /** Twice the value is 500 above the range, and d brings it back; a product kept by itself would be cut first. */
    private static void calculationsAreExact() {
        long half = (TOP + 4000) / 2;
        for (int type : IN_EIGHTHS) {
            dueChanged("above and back", MAP, 2, -1000, type, new long[] {half}, TOP - 4000);
            dueChanged("below and back", MAP, 2, 1000, type, new long[] {-half}, -TOP + 4000);
        }
    }

    private static void longsWrap() {
        long quarter = 1L << 62;
        dueChanged("twice", MAP, 2, 0, LONG, new long[] {quarter - 1, quarter, -quarter, -quarter - 1},
            Long.MAX_VALUE - 1, Long.MIN_VALUE, Long.MIN_VALUE, Long.MAX_VALUE - 1);
        dueChanged("one more", MAP, 1, 1, LONG, new long[] {Long.MAX_VALUE - 1, Long.MAX_VALUE},
            Long.MAX_VALUE, Long.MIN_VALUE);
        dueChanged("one less", MAP, 1, -1, LONG, new long[] {Long.MIN_VALUE + 1, Long.MIN_VALUE},
            Long.MIN_VALUE, Long.MAX_VALUE);
        dueChanged("turned", MAP, -1, 0, LONG, new long[] {Long.MIN_VALUE, Long.MAX_VALUE},
            Long.MIN_VALUE, -Long.MAX_VALUE);
        dueResult("sum at the edge", SUM, LONG, Long.MAX_VALUE, Long.MAX_VALUE - 1, 1);
        dueResult("sum beyond", SUM, LONG, Long.MIN_VALUE, Long.MAX_VALUE, 1);
        dueResult("sum below", SUM, LONG, Long.MAX_VALUE, Long.MIN_VALUE, -1);
        dueChanged("scan beyond", SCAN, 0, 0, LONG, new long[] {Long.MAX_VALUE, 1, 1, -2},
            Long.MAX_VALUE, Long.MIN_VALUE, Long.MIN_VALUE + 1, Long.MAX_VALUE);
    }

    private static void sumOfOneAndOfMost() {
        for (int type = BYTE; type <= DOUBLE; type++) {
            dueResult("one of type " + type, SUM, type, -3, -3);
            dueResult("two of type " + type, SUM, type, 4, -3, 7);
            dueResult("all of type " + type, SUM, type, 120, alike(24, 5));
        }
    }

    private static void sumGoesFromTheFirstOn() {
        for (int type : IN_EIGHTHS) {
            Checks.due("above at once", ended(SUM, 24, 0, 0, type, TOP, 8, -16).result(0), TOP - 16);
            Checks.due("never above", ended(SUM, 24, 0, 0, type, -16, TOP, 8).result(0), TOP - 8);
            Checks.due("below at once", ended(SUM, 24, 0, 0, type, -TOP, -8, 16).result(0), -TOP + 16);
            Checks.due("never below", ended(SUM, 24, 0, 0, type, 16, -TOP, -8).result(0), -TOP + 8);
        }
    }

    private static void sumsAreKept() {
        for (int type = BYTE; type <= INT; type++) {
            long most = (1L << ((8 << type) - 1)) - 1;
            Checks.due("at most", ended(SUM, 24, 0, 0, type, most - 1, 1).result(0), most);
            Checks.due("beyond", ended(SUM, 24, 0, 0, type, most, 1).result(0), -most - 1);
            Checks.due("below", ended(SUM, 24, 0, 0, type, -most - 1, -1).result(0), most);
        }
        for (int type : IN_EIGHTHS) {
            Checks.due("at most", ended(SUM, 24, 0, 0, type, TOP - 1, 1).result(0), TOP);
            Checks.due("beyond", ended(SUM, 24, 0, 0, type, TOP, 1).result(0), TOP);
            Checks.due("beyond and back", ended(SUM, 24, 0, 0, type, TOP, 1, -1).result(0), TOP - 1);
            Checks.due("below and back", ended(SUM, 24, 0, 0, type, -TOP, -1, 1).result(0), -TOP + 1);
        }
    }

    private static void sumsOfTwoResultsAreKept() {
        for (int type = BYTE; type <= INT; type++) {
            long most = (1L << ((8 << type) - 1)) - 1;
            Checks.due("at most", ended(SUM, 1, 0, 0, type, most - 1, 1).result(0), most);
            Checks.due("beyond", ended(SUM, 1, 0, 0, type, most, 1).result(0), -most - 1);
            Checks.due("below", ended(SUM, 1, 0, 0, type, -most - 1, -1).result(0), most);
        }
        for (int type : IN_EIGHTHS) {
            Checks.due("at most", ended(SUM, 1, 0, 0, type, TOP - 1, 1).result(0), TOP);
            Checks.due("beyond", ended(SUM, 1, 0, 0, type, TOP, 1).result(0), TOP);
            Checks.due("beyond and back", ended(SUM, 1, 0, 0, type, TOP, 8, -16, 0).result(0), TOP - 16);
            Checks.due("below and back", ended(SUM, 1, 0, 0, type, -TOP, -8, 16, 0).result(0), -TOP + 16);
            Checks.due("two leaves of two", ended(SUM, 2, 0, 0, type, TOP, 8, -TOP, -16).result(0), 0);
        }
    }

    private static void greatestAtEachPlace() {
        for (int place = 0; place < 24; place++) {
            long[] values = alike(24, -5);
            values[place] = -4;
            dueResult("at " + place, GREATEST, LONG, -4, values);
        }
        long[] least = {-128, -32768, Integer.MIN_VALUE, Long.MIN_VALUE, -TOP, -TOP};
        for (int type = BYTE; type <= DOUBLE; type++) {
            dueResult("one of type " + type, GREATEST, type, least[type], least[type]);
            dueResult("all least of type " + type, GREATEST, type, least[type], alike(3, least[type]));
            dueResult("one above, type " + type, GREATEST, type, least[type] + 1, least[type], least[type] + 1);
        }
        dueResult("far apart", GREATEST, LONG, Long.MAX_VALUE, Long.MIN_VALUE, Long.MAX_VALUE, -1);
    }

    private static void scanOfOneAndOfMost() {
        long[] rising = new long[24];
        for (int k = 0; k < 24; k++) {
            rising[k] = k + 1;
        }
        for (int type = BYTE; type <= DOUBLE; type++) {
            dueChanged("one of type " + type, SCAN, 0, 0, type, new long[] {-3}, -3);
            dueChanged("two of type " + type, SCAN, 0, 0, type, new long[] {-3, 5}, -3, 2);
            dueChanged("all of type " + type, SCAN, 0, 0, type, alike(24, 1), rising);
        }
    }

    private static void scanKeepsEachSum() {
        for (int type = BYTE; type <= INT; type++) {
            long most = (1L << ((8 << type) - 1)) - 1;
            dueChanged("beyond and back", SCAN, 0, 0, type, new long[] {most, 1, -1, 0}, most, -most - 1, most, most);
            dueChanged("below and back", SCAN, 0, 0, type, new long[] {-most - 1, -1, 1}, -most - 1, most, -most - 1);
        }
        for (int type : IN_EIGHTHS) {
            dueChanged("beyond and back", SCAN, 0, 0, type, new long[] {TOP, 1, -1}, TOP, TOP, TOP - 1);
            ForkPool base = ended(SCAN, 1, 0, 0, type, TOP, 0, 8, -16);
            dueElements("the base is a partial sum", base, 0, TOP, TOP, TOP, TOP - 16);
            ForkPool result = ended(SCAN, 2, 0, 0, type, -TOP, 0, 0, 0, TOP, 8, 1, 1);
            dueElements("a result is a partial sum", result, 0, -TOP, -TOP, -TOP, -TOP, 0, 8, 1, 2);
        }
    }

    private static void sortAtTheEdges() {
        dueChanged("one", SORT, 0, 0, INT, new long[] {5}, 5);
        dueChanged("two in order", SORT, 0, 0, INT, new long[] {1, 2}, 1, 2);
        dueChanged("two out of order", SORT, 0, 0, INT, new long[] {2, 1}, 1, 2);
        dueChanged("alike", SORT, 0, 0, INT, new long[] {3, 3, 3}, 3, 3, 3);
        dueChanged("far apart", SORT, 0, 0, LONG, new long[] {Long.MAX_VALUE, 0, Long.MIN_VALUE, -1},
            Long.MIN_VALUE, -1, 0, Long.MAX_VALUE);
        dueChanged("eighths", SORT, 0, 0, DOUBLE, new long[] {TOP, 1, -1, -TOP, 0}, -TOP, -1, 0, 1, TOP);
        dueChanged("wrapped", SORT, 0, 0, BYTE, new long[] {127, 128, 0}, -128, 0, 127);
        long[] falling = new long[24];
        long[] rising = new long[24];
        for (int k = 0; k < 24; k++) {
            falling[k] = 24 - k;
            rising[k] = k + 1;
        }
        dueChanged("24 falling", SORT, 0, 0, SHORT, falling, rising);
    }

    private static void mapAtTheEdges() {
        dueChanged("most", MAP, 1000, 1000, INT, new long[] {1, 0, -1}, 2000, 1000, 0);
        dueChanged("least", MAP, -1000, -1000, INT, new long[] {1, 0, -1}, -2000, -1000, 0);
        dueChanged("nothing", MAP, 0, 0, INT, new long[] {1, 0, -1}, 0, 0, 0);
        for (int type = BYTE; type <= INT; type++) {
            long most = (1L << ((8 << type) - 1)) - 1;
            dueChanged("one more", MAP, 1, 1, type, new long[] {most - 1, most}, most, -most - 1);
            dueChanged("one less", MAP, 1, -1, type, new long[] {-most, -most - 1}, -most - 1, most);
            dueChanged("turned", MAP, -1, 0, type, new long[] {-most, -most - 1}, most, -most - 1);
        }
        for (int type : IN_EIGHTHS) {
            dueChanged("one more", MAP, 1, 1, type, new long[] {TOP - 9, TOP - 8, TOP - 7}, TOP - 1, TOP, TOP);
            dueChanged("one less", MAP, 1, -1, type, new long[] {9 - TOP, 8 - TOP, 7 - TOP}, 1 - TOP, -TOP, -TOP);
        }
    }

    private static void numbersAreWhole() {
        for (int type : IN_EIGHTHS) {
            dueChanged("d is 8 eighths", MAP, 1, 1, type, new long[] {0, 1, -1}, 8, 9, 7);
            dueChanged("c is twice", MAP, 2, 0, type, new long[] {0, 1, -1}, 0, 2, -2);
            dueChanged("c is one", SHARE, 1, 0, type, new long[] {8, 1, 16, -8}, 8, 64, 4, -8);
        }
    }

    private static void shareTowardZero() {
        for (int type = BYTE; type <= LONG; type++) {
            long[] divisors = {6, 7, 8, -6, -7, -8};
            dueChanged("7, type " + type, SHARE, 7, 0, type, divisors, 1, 1, 0, -1, -1, 0);
            dueChanged("-7, type " + type, SHARE, -7, 0, type, divisors, -1, -1, 0, 1, 1, 0);
            dueChanged("0, type " + type, SHARE, 0, 0, type, divisors, 0, 0, 0, 0, 0, 0);
            dueChanged("by 2, type " + type, SHARE, 15, 0, type, new long[] {2, -2}, 7, -7);
        }
        dueChanged("by the farthest", SHARE, 1000, 0, LONG, new long[] {Long.MIN_VALUE, Long.MAX_VALUE}, 0, 0);
    }

    private static void shareDown() {
        for (int type : IN_EIGHTHS) {
            dueChanged("by 3", SHARE, 1, 0, type, new long[] {24, -24}, 2, -3);
            dueChanged("-1 by 3", SHARE, -1, 0, type, new long[] {24, -24}, -3, 2);
            dueChanged("by the farthest", SHARE, 1, 0, type, new long[] {TOP, -TOP}, 0, -1);
            dueChanged("0", SHARE, 0, 0, type, new long[] {TOP, -TOP, 1, -1}, 0, 0, 0, 0);
            dueChanged("by an eighth", SHARE, 1000, 0, type, new long[] {1, -1}, 64000, -64000);
        }
    }

    private static void shareIsKept() {
        dueChanged("at most", SHARE, 127, 0, BYTE, new long[] {1, -1}, 127, -127);
        dueChanged("beyond", SHARE, 128, 0, BYTE, new long[] {1, -1}, -128, -128);
        dueChanged("farther", SHARE, -129, 0, BYTE, new long[] {1, -1}, 127, -127);
        dueChanged("a short has room", SHARE, 1000, 0, SHORT, new long[] {1, -1}, 1000, -1000);
        dueChanged("d is not used", SHARE, 6, 1000, INT, new long[] {2, 3}, 3, 2);
    }

    private static void shareByZero() {
        for (int type = BYTE; type <= DOUBLE; type++) {
            for (int c : new int[] {-1000, 0, 1000}) {
                ForkPool failed = ended(SHARE, 24, c, 0, type, 1, -1, 0);
                dueJob("by 0, type " + type + ", c " + c, failed, 0, FAILED, 2);
                ForkPool done = ended(SHARE, 24, c, 0, type, 1, -1, 1, -1);
                dueJob("by 1 and -1, type " + type + ", c " + c, done, 0, DONE, -1);
            }
        }
    }
}
