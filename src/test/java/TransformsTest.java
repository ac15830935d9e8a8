/** Promises 11 to 13: forward, backward, sum. */
public final class TransformsTest {
    private static final Class<IndexOutOfBoundsException> INDEX = IndexOutOfBoundsException.class;
    private static final Class<IllegalArgumentException> ARGUMENT = IllegalArgumentException.class;
    private static final Class<IllegalStateException> STATE = IllegalStateException.class;
    private static final int[] NO_NUMBERS = {-1, 4, Integer.MIN_VALUE, Integer.MAX_VALUE};

    public static void main(String[] args) {
        byHand();
        shortAndEmptyRows();
        largeEntries();
        wrongInputs();
        orderOfExceptions();
        everyLengthByEveryWay();
        Expect.finish();
    }

    private static void byHand() {
        ButterflyYard yard = new ButterflyYard();
        yard.plan(5, 4);
        Expect.fill(yard, 0, 1, 2, 3, 4);
        Expect.fill(yard, 1, 1, 2, 3, 4);
        Expect.answer(0, "sum of entry 0", () -> yard.sum(0, 0, 0));
        Expect.answer(4, "sum of entry 1", () -> yard.sum(0, 0, 1));
        Expect.answer(3, "sum of entry 2", () -> yard.sum(0, 0, 2));
        Expect.answer(2, "sum of entry 3", () -> yard.sum(0, 0, 3));
        Expect.same("1 2 3 4", Expect.row(yard, 0), "the row after sum");
        Expect.answer(0, "forward", () -> yard.forward(0, 0, 1));
        Expect.same("0 4 3 2", Expect.row(yard, 0), "the row forward");
        Expect.answer(1, "backward", () -> yard.backward(0, 0, 4));
        Expect.same("1 2 3 4", Expect.row(yard, 0), "the row back");
        Expect.same("1 2 3 4", Expect.row(yard, 1), "another row");
    }

    private static void shortAndEmptyRows() {
        ButterflyYard yard = new ButterflyYard();
        yard.plan(7, 3);
        for (int way : new int[] {0, 1, 3, 4}) {
            Expect.fill(yard, 0);
            Expect.answer(0, "forward of an empty row", () -> yard.forward(0, 0, way));
            Expect.same("0 0 0", Expect.row(yard, 0), "an empty row forward");
            Expect.fill(yard, 0);
            Expect.answer(0, "backward of an empty row", () -> yard.backward(0, 0, way));
            Expect.same("0 0 0", Expect.row(yard, 0), "an empty row backward");
            Expect.fill(yard, 0, 0, -1);
            Expect.answer(6, "forward of a short row", () -> yard.forward(0, 0, way));
            Expect.same("6 5 3", Expect.row(yard, 0), "a short row forward");
        }
        yard.clear(1);
        Expect.answer(0, "sum of an empty row", () -> yard.sum(0, 1, 2));
        Expect.answer(0, "length after sum", () -> yard.length(1));
        yard.plan(9973, 1);
        for (int way : new int[] {0, 1, 4}) {
            Expect.fill(yard, 2, -1);
            Expect.answer(9972, "forward of one entry", () -> yard.forward(1, 2, way));
            Expect.answer(9972, "backward of one entry", () -> yard.backward(1, 2, way));
            Expect.same("9972", Expect.row(yard, 2), "one entry");
        }
    }

    /** A filtered row holds entries beyond those that can be appended. */
    private static void largeEntries() {
        ButterflyYard yard = new ButterflyYard();
        yard.plan(193, 64);
        Expect.fill(yard, 0, -99, -99, -99, -99, -99, -99, -99, -99, -99, -99, -99, -99, -99, -99, -99, -99,
            -99, -99, -99, -99, -99, -99, -99, -99, -99, -99, -99, -99, -99, -99, -99, -99);
        Expect.fill(yard, 1, 99, 99, 99, 99, 99, 99, 99, 99, 99, 99, 99, 99, 99, 99, 99, 99,
            99, 99, 99, 99, 99, 99, 99, 99, 99, 99, 99, 99, 99, 99, 99, 99);
        Expect.answer(63, "filter", () -> yard.filter(0, 1, 2, 5, true));
        Expect.answer(-313632, "the largest entry", () -> yard.at(2, 31));
        long due = Math.floorMod(-3168L * 3168L, 193L);
        for (int way : new int[] {0, 1, 4}) {
            yard.copy(2, 3);
            Expect.answer(due, "sum of large entries", () -> yard.sum(0, 3, 0));
            Expect.answer(due, "forward of large entries", () -> yard.forward(0, 3, way));
            Expect.answer(Math.floorMod(-9801, 193), "backward of large entries", () -> yard.backward(0, 3, way));
        }
    }

    private static ButterflyYard filled() {
        ButterflyYard yard = new ButterflyYard();
        yard.plan(13, 4);
        yard.plan(13, 3);
        yard.plan(13, 6);
        yard.plan(13, 1);
        Expect.fill(yard, 0, 1, -2, 3, -4, 5);
        Expect.fill(yard, 1, 6, 7);
        return yard;
    }

    private static void wrongInputs() {
        for (int none : NO_NUMBERS) {
            Expect.unchanged(TransformsTest::filled, INDEX, "forward by plan " + none, yard -> yard.forward(none, 1, 0));
            Expect.unchanged(TransformsTest::filled, INDEX, "backward by plan " + none, yard -> yard.backward(none, 1, 0));
            Expect.unchanged(TransformsTest::filled, INDEX, "sum by plan " + none, yard -> yard.sum(none, 1, 0));
            Expect.unchanged(TransformsTest::filled, INDEX, "forward of row " + none, yard -> yard.forward(0, none, 0));
            Expect.unchanged(TransformsTest::filled, INDEX, "backward of row " + none, yard -> yard.backward(0, none, 0));
            Expect.unchanged(TransformsTest::filled, INDEX, "sum of row " + none, yard -> yard.sum(0, none, 0));
            Expect.unchanged(TransformsTest::filled, INDEX, "sum of entry " + none, yard -> yard.sum(0, 1, none));
        }
        for (int way : new int[] {-1, 2, 3, 5, 31, 32, 33, 36, -32, Integer.MIN_VALUE, Integer.MAX_VALUE}) {
            Expect.unchanged(TransformsTest::filled, ARGUMENT, "forward by way " + way, yard -> yard.forward(0, 1, way));
            Expect.unchanged(TransformsTest::filled, ARGUMENT, "backward by way " + way, yard -> yard.backward(0, 1, way));
        }
        Expect.unchanged(TransformsTest::filled, ARGUMENT, "Good and Thomas of 3", yard -> yard.forward(1, 1, 2));
        Expect.unchanged(TransformsTest::filled, ARGUMENT, "Rader of 6", yard -> yard.backward(2, 1, 3));
        for (int way : new int[] {0, 1, 4}) {
            Expect.unchanged(TransformsTest::filled, STATE, "forward of 5 by 4", yard -> yard.forward(0, 0, way));
            Expect.unchanged(TransformsTest::filled, STATE, "backward of 5 by 4", yard -> yard.backward(0, 0, way));
        }
        Expect.unchanged(TransformsTest::filled, STATE, "sum of 5 by 4", yard -> yard.sum(0, 0, 3));
    }

    private static void orderOfExceptions() {
        Expect.unchanged(TransformsTest::filled, INDEX, "forward: plan and way", yard -> yard.forward(4, 0, 9));
        Expect.unchanged(TransformsTest::filled, INDEX, "forward: row and way", yard -> yard.forward(0, 4, 9));
        Expect.unchanged(TransformsTest::filled, ARGUMENT, "forward: way and row too long", yard -> yard.forward(0, 0, 2));
        Expect.unchanged(TransformsTest::filled, INDEX, "backward: plan and way", yard -> yard.backward(4, 0, 9));
        Expect.unchanged(TransformsTest::filled, INDEX, "backward: row and way", yard -> yard.backward(0, 4, 9));
        Expect.unchanged(TransformsTest::filled, ARGUMENT, "backward: way and row too long", yard -> yard.backward(0, 0, 3));
        Expect.unchanged(TransformsTest::filled, INDEX, "sum: entry and row too long", yard -> yard.sum(0, 0, 4));
    }

    private static void everyLengthByEveryWay() {
        int seed = 1;
        int plansTried = 0;
        for (int prime = 3; prime <= 9973; prime++) {
            if (!Reference.isPrime(prime)) {
                continue;
            }
            // All lengths of small primes and of the largest, and every seventh prime between.
            boolean tried = prime < 700 || prime > 9900 || plansTried++ % 7 == 0;
            for (int length = 1; tried && length <= 64; length++) {
                if ((prime - 1) % length != 0) {
                    continue;
                }
                int ways = Reference.waysOf(length);
                for (int way = 0; way < 5; way++) {
                    seed = seed * 1103515245 + 12345;
                    if ((ways >> way & 1) == 1) {
                        compare(prime, length, way, seed);
                    }
                }
            }
        }
    }

    private static void compare(int prime, int length, int way, int seed) {
        ButterflyYard yard = new ButterflyYard();
        Reference reference = new Reference();
        yard.plan(prime, length);
        reference.plan(prime, length);
        boolean largest = (seed >>> 8) % 4 == 0;
        int count = (seed >>> 8) % 3 == 0 ? (seed >>> 12) % (length + 1) : length;
        for (int number = 0; number < count; number++) {
            seed = seed * 1103515245 + 12345;
            int value = largest ? -1 : (seed >>> 8) % 19999 - 9999;
            yard.append(1, value);
            reference.append(1, value);
        }
        String call = " by (" + prime + ", " + length + ") in way " + way;
        int asked = (seed >>> 8) % length;
        Expect.answer(reference.sum(0, 1, asked), "sum" + call, () -> yard.sum(0, 1, asked));
        boolean backFirst = (seed >>> 9) % 2 == 0;
        for (int step = 0; step < 2; step++) {
            if (backFirst == (step == 0)) {
                Expect.answer(reference.backward(0, 1, way), "backward" + call, () -> yard.backward(0, 1, way));
            } else {
                Expect.answer(reference.forward(0, 1, way), "forward" + call, () -> yard.forward(0, 1, way));
            }
            for (int k = 0; k < length; k++) {
                int entry = k;
                Expect.answer(reference.at(1, k), "entry " + k + call, () -> yard.at(1, entry));
            }
        }
    }
}
