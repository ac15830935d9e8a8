/** Promises 14 to 17: convolve, convolved, filter, multiply. */
public final class ConvolutionsTest {
    private static final Class<IndexOutOfBoundsException> INDEX = IndexOutOfBoundsException.class;
    private static final Class<IllegalArgumentException> ARGUMENT = IllegalArgumentException.class;
    private static final Class<IllegalStateException> STATE = IllegalStateException.class;
    private static final int[] NO_NUMBERS = {-1, 4, Integer.MIN_VALUE, Integer.MAX_VALUE};

    public static void main(String[] args) {
        convolve();
        convolveWrongly();
        filter();
        filterEveryBlock();
        filterWrongly();
        multiply();
        multiplyWrongly();
        Expect.finish();
    }

    private static ButterflyYard filled() {
        ButterflyYard yard = new ButterflyYard();
        yard.plan(7, 3);
        Expect.fill(yard, 0, 1, 2, 3);
        Expect.fill(yard, 1, 4, -1);
        Expect.fill(yard, 2, 9, 9, 9, 9);
        return yard;
    }

    private static void convolve() {
        ButterflyYard yard = filled();
        // (1, 2, 3) by (4, -1), going round 3: 4 - 3, 8 - 1, 12 - 2.
        Expect.answer(1, "convolved 0", () -> yard.convolved(0, 0, 1, 0));
        Expect.answer(0, "convolved 1", () -> yard.convolved(0, 0, 1, 1));
        Expect.answer(3, "convolved 2", () -> yard.convolved(0, 0, 1, 2));
        Expect.same("[1 2 3][4 -1][9 9 9 9][]1(2 27)", Expect.state(yard), "the state after convolved");
        Expect.answer(3, "convolve onto a longer row", () -> yard.convolve(0, 0, 1, 2));
        Expect.same("[1 2 3][4 -1][1 0 3][]1(2 27)", Expect.state(yard), "the state after convolve");
        Expect.answer(3, "convolve onto one of both", () -> yard.convolve(0, 1, 0, 1));
        Expect.same("[1 2 3][1 0 3][1 0 3][]1(2 27)", Expect.state(yard), "the state after convolve onto the one");
        Expect.answer(3, "convolve a row with itself onto itself", () -> yard.convolve(0, 0, 0, 0));
        Expect.same("6 6 3", Expect.row(yard, 0), "the square of 1 2 3");
        Expect.answer(3, "convolve of empty rows", () -> yard.convolve(0, 3, 3, 1));
        Expect.same("[6 6 3][0 0 0][1 0 3][]1(2 27)", Expect.state(yard), "the state after convolve of empty rows");
        Expect.answer(0, "convolved of an empty row", () -> yard.convolved(0, 0, 3, 2));
    }

    private static void convolveWrongly() {
        for (int none : NO_NUMBERS) {
            Expect.unchanged(ConvolutionsTest::filled, INDEX, "convolve by plan " + none, yard -> yard.convolve(none, 0, 1, 3));
            Expect.unchanged(ConvolutionsTest::filled, INDEX, "convolve of " + none, yard -> yard.convolve(0, none, 1, 3));
            Expect.unchanged(ConvolutionsTest::filled, INDEX, "convolve with " + none, yard -> yard.convolve(0, 0, none, 3));
            Expect.unchanged(ConvolutionsTest::filled, INDEX, "convolve to " + none, yard -> yard.convolve(0, 0, 1, none));
            Expect.unchanged(ConvolutionsTest::filled, INDEX, "convolve too long a row to " + none, yard -> yard.convolve(0, 2, 2, none));
            Expect.unchanged(ConvolutionsTest::filled, INDEX, "convolved by plan " + none, yard -> yard.convolved(none, 0, 1, 0));
            Expect.unchanged(ConvolutionsTest::filled, INDEX, "convolved of " + none, yard -> yard.convolved(0, none, 1, 0));
            Expect.unchanged(ConvolutionsTest::filled, INDEX, "convolved with " + none, yard -> yard.convolved(0, 0, none, 0));
            Expect.unchanged(ConvolutionsTest::filled, INDEX, "convolved entry " + none, yard -> yard.convolved(0, 0, 1, none));
        }
        Expect.unchanged(ConvolutionsTest::filled, INDEX, "convolved entry 3", yard -> yard.convolved(0, 0, 1, 3));
        Expect.unchanged(ConvolutionsTest::filled, INDEX, "convolved entry 3 of too long a row", yard -> yard.convolved(0, 2, 1, 3));
        Expect.unchanged(ConvolutionsTest::filled, STATE, "convolve of too long a row", yard -> yard.convolve(0, 2, 1, 3));
        Expect.unchanged(ConvolutionsTest::filled, STATE, "convolve with too long a row", yard -> yard.convolve(0, 1, 2, 3));
        Expect.unchanged(ConvolutionsTest::filled, STATE, "convolved of too long a row", yard -> yard.convolved(0, 2, 1, 2));
        Expect.unchanged(ConvolutionsTest::filled, STATE, "convolved with too long a row", yard -> yard.convolved(0, 1, 2, 2));
    }

    private static ButterflyYard samples() {
        ButterflyYard yard = new ButterflyYard();
        Expect.fill(yard, 0, 1, -2, 3, -4, 5);
        Expect.fill(yard, 1, 10, 20, 30);
        return yard;
    }

    private static void filter() {
        for (int block = 1; block <= 32; block++) {
            int size = block;
            ButterflyYard yard = samples();
            Expect.answer(7, "filter by overlap-add", () -> yard.filter(0, 1, 2, size, false));
            Expect.same("10 0 20 -40 60 -20 150", Expect.row(yard, 2), "overlap-add in blocks of " + block);
            Expect.answer(7, "filter by overlap-save", () -> yard.filter(0, 1, 3, size, true));
            Expect.same("10 0 20 -40 60 -20 150", Expect.row(yard, 3), "overlap-save in blocks of " + block);
        }
        ButterflyYard yard = samples();
        Expect.fill(yard, 2, 99);
        Expect.fill(yard, 3, -99);
        Expect.answer(1, "filter one entry", () -> yard.filter(2, 3, 2, 32, false));
        Expect.same("[1 -2 3 -4 5][10 20 30][-9801][-99]0", Expect.state(yard), "the state after filter of one entry");
        Expect.answer(5, "filter a row with itself onto itself", () -> yard.filter(1, 1, 1, 2, true));
        Expect.same("100 400 1000 1200 900", Expect.row(yard, 1), "the square of 10 20 30");
        Expect.thrown(ARGUMENT, "filter of what a filter made", () -> yard.filter(1, 0, 2, 2, true));
    }

    private static void filterEveryBlock() {
        int seed = 7;
        for (int block = 1; block <= 32; block++) {
            for (int heard : new int[] {1, 2, 5, 31, 32, 33, 63, 64}) {
                for (int response : new int[] {1, 2, 32, 33, 65 - heard}) {
                    seed = seed * 1103515245 + 12345;
                    if (heard + response - 1 <= 64) {
                        compare(block, heard, response, seed);
                    }
                }
            }
        }
    }

    private static void compare(int block, int heard, int response, int seed) {
        for (boolean save : new boolean[] {false, true}) {
            ButterflyYard yard = new ButterflyYard();
            Reference reference = new Reference();
            for (int number = 0; number < heard + response; number++) {
                seed = seed * 1103515245 + 12345;
                int value = (seed >>> 8) % 199 - 99;
                int row = number < heard ? 0 : 1;
                yard.append(row, value);
                reference.append(row, value);
            }
            String call = "filter of " + heard + " by " + response + " in blocks of " + block + ", save " + save;
            int target = (seed >>> 8) % 3;
            Expect.answer(reference.filter(0, 1, target, block, save), call, () -> yard.filter(0, 1, target, block, save));
            for (int k = 0; k < heard + response - 1; k++) {
                int entry = k;
                Expect.answer(reference.at(target, k), "entry " + k + " of " + call, () -> yard.at(target, entry));
            }
        }
    }

    private static ButterflyYard noSamples() {
        ButterflyYard yard = new ButterflyYard();
        Expect.fill(yard, 0, 1, 2);
        Expect.fill(yard, 1, 100, 1);
        Expect.fill(yard, 2, 1, -100);
        return yard;
    }

    /** 33 digits in row 0 and in row 2, and 33 with a 10 at last in row 1. */
    private static ButterflyYard longRows() {
        ButterflyYard yard = new ButterflyYard();
        for (int number = 0; number < 33; number++) {
            yard.append(0, 9);
            yard.append(1, number == 32 ? 10 : 9);
            yard.append(2, 0);
        }
        return yard;
    }

    private static void filterWrongly() {
        for (int none : NO_NUMBERS) {
            Expect.unchanged(ConvolutionsTest::noSamples, INDEX, "filter of " + none, yard -> yard.filter(none, 0, 0, 1, false));
            Expect.unchanged(ConvolutionsTest::noSamples, INDEX, "filter by " + none, yard -> yard.filter(0, none, 0, 1, true));
            Expect.unchanged(ConvolutionsTest::noSamples, INDEX, "filter to " + none, yard -> yard.filter(0, 0, none, 1, false));
            Expect.unchanged(ConvolutionsTest::noSamples, INDEX, "filter to " + none + " in no block", yard -> yard.filter(0, 0, none, 0, false));
            Expect.unchanged(ConvolutionsTest::noSamples, INDEX, "filter of nothing to " + none, yard -> yard.filter(3, 3, none, 1, false));
        }
        for (int block : new int[] {0, -1, 33, Integer.MIN_VALUE, Integer.MAX_VALUE}) {
            Expect.unchanged(ConvolutionsTest::noSamples, ARGUMENT, "filter in blocks of " + block, yard -> yard.filter(0, 0, 3, block, true));
            Expect.unchanged(ConvolutionsTest::noSamples, ARGUMENT, "filter of nothing in blocks of " + block, yard -> yard.filter(3, 0, 3, block, false));
        }
        for (boolean save : new boolean[] {false, true}) {
            Expect.unchanged(ConvolutionsTest::noSamples, ARGUMENT, "filter of 100", yard -> yard.filter(1, 0, 3, 1, save));
            Expect.unchanged(ConvolutionsTest::noSamples, ARGUMENT, "filter by -100", yard -> yard.filter(0, 2, 3, 1, save));
            Expect.unchanged(ConvolutionsTest::noSamples, ARGUMENT, "filter of 100 by nothing", yard -> yard.filter(1, 3, 3, 1, save));
            Expect.unchanged(ConvolutionsTest::noSamples, ARGUMENT, "filter of nothing by -100", yard -> yard.filter(3, 2, 3, 1, save));
            Expect.unchanged(ConvolutionsTest::noSamples, STATE, "filter of nothing", yard -> yard.filter(3, 0, 0, 1, save));
            Expect.unchanged(ConvolutionsTest::noSamples, STATE, "filter by nothing", yard -> yard.filter(0, 3, 0, 1, save));
        }
        Expect.unchanged(ConvolutionsTest::longRows, STATE, "filter to 65 entries", yard -> yard.filter(0, 1, 2, 32, false));
        Expect.unchanged(ConvolutionsTest::longRows, STATE, "filter to 65 entries, save", yard -> yard.filter(0, 0, 0, 32, true));
    }

    private static void multiply() {
        ButterflyYard yard = new ButterflyYard();
        Expect.fill(yard, 0, 9, 9);
        Expect.fill(yard, 1, 2, 1, 0, 0);
        Expect.answer(4, "99 by 99", () -> yard.multiply(0, 0, 2));
        Expect.same("1 0 8 9", Expect.row(yard, 2), "99 by 99");
        Expect.answer(4, "99 by 0012", () -> yard.multiply(0, 1, 3));
        Expect.same("8 8 1 1", Expect.row(yard, 3), "99 by 0012");
        Expect.fill(yard, 2, 0, 0, 0);
        Expect.answer(1, "99 by 000", () -> yard.multiply(0, 2, 3));
        Expect.same("[9 9][2 1 0 0][0 0 0][0]0", Expect.state(yard), "the state after a product of 0");
        Expect.answer(1, "000 by 000", () -> yard.multiply(2, 2, 2));
        Expect.same("0", Expect.row(yard, 2), "000 by 000");
        Expect.fill(yard, 2, 0, 1);
        Expect.answer(3, "10 by 99", () -> yard.multiply(2, 0, 0));
        Expect.same("0 9 9", Expect.row(yard, 0), "10 by 99");
        Expect.fill(yard, 0, 1);
        Expect.fill(yard, 1, 0);
        for (int number = 0; number < 62; number++) {
            yard.append(1, 0);
        }
        Expect.answer(1, "1 by 63 zeros", () -> yard.multiply(0, 1, 0));
        Expect.fill(yard, 3);
        for (int number = 0; number < 32; number++) {
            yard.append(3, 9);
        }
        Expect.answer(64, "32 nines by 32 nines", () -> yard.multiply(3, 3, 3));
        StringBuilder due = new StringBuilder("1");
        for (int place = 1; place < 64; place++) {
            due.append(place < 32 ? " 0" : place == 32 ? " 8" : " 9");
        }
        Expect.same(due.toString(), Expect.row(yard, 3), "32 nines by 32 nines");
    }

    private static ButterflyYard noDigits() {
        ButterflyYard yard = new ButterflyYard();
        Expect.fill(yard, 0, 1, 2);
        Expect.fill(yard, 1, 10);
        Expect.fill(yard, 2, 1, -1);
        return yard;
    }

    private static void multiplyWrongly() {
        for (int none : NO_NUMBERS) {
            Expect.unchanged(ConvolutionsTest::noDigits, INDEX, "multiply " + none, yard -> yard.multiply(none, 1, 0));
            Expect.unchanged(ConvolutionsTest::noDigits, INDEX, "multiply by " + none, yard -> yard.multiply(1, none, 0));
            Expect.unchanged(ConvolutionsTest::noDigits, INDEX, "multiply to " + none, yard -> yard.multiply(3, 1, none));
        }
        Expect.unchanged(ConvolutionsTest::noDigits, ARGUMENT, "multiply 10", yard -> yard.multiply(1, 0, 3));
        Expect.unchanged(ConvolutionsTest::noDigits, ARGUMENT, "multiply by -1", yard -> yard.multiply(0, 2, 3));
        Expect.unchanged(ConvolutionsTest::noDigits, ARGUMENT, "multiply nothing by -1", yard -> yard.multiply(3, 2, 3));
        Expect.unchanged(ConvolutionsTest::noDigits, ARGUMENT, "multiply 10 by nothing", yard -> yard.multiply(1, 3, 3));
        Expect.unchanged(ConvolutionsTest::noDigits, STATE, "multiply nothing", yard -> yard.multiply(3, 0, 0));
        Expect.unchanged(ConvolutionsTest::noDigits, STATE, "multiply by nothing", yard -> yard.multiply(0, 3, 0));
        Expect.unchanged(ConvolutionsTest::longRows, STATE, "multiply 33 digits by 33", yard -> yard.multiply(0, 2, 3));
        Expect.unchanged(ConvolutionsTest::longRows, STATE, "multiply 33 digits by themselves", yard -> yard.multiply(0, 0, 3));
        Expect.unchanged(ConvolutionsTest::longRows, ARGUMENT, "multiply 33 digits by 33 with a 10", yard -> yard.multiply(0, 1, 3));
    }
}
