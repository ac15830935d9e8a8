import java.util.Arrays;

/** The boundary cases of promise 16: a method for each sentence of the document, which stands above it. */
public final class FilterBoundsTest {
    private static final Class<IndexOutOfBoundsException> INDEX = IndexOutOfBoundsException.class;
    private static final Class<IllegalArgumentException> ARGUMENT = IllegalArgumentException.class;
    private static final Class<IllegalStateException> STATE = IllegalStateException.class;
    private static final int[] NO_ROWS = {-1, 4, -4, Integer.MIN_VALUE, Integer.MAX_VALUE};
    private static final int[] NO_BLOCKS = {0, 33, -1, -32, 64, Integer.MIN_VALUE, Integer.MAX_VALUE};
    private static final boolean[] BOTH = {false, true};

    public static void main(String[] args) {
        rowsThatThereAre();
        noRowBesides();
        leastAndLargestBlock();
        noBlockBesides();
        leastAndLargestEntries();
        noEntryBesides();
        entriesOfOtherRows();
        largestSums();
        nothingEmpty();
        upToSixtyFour();
        noMoreThanSixtyFour();
        nothingGoesRound();
        seamsOfBlocks();
        kernelsLongerThanBlocks();
        bothLeadToTheSame();
        targetBesides();
        targetsOfAnyLength();
        targetIsTheSignal();
        targetIsTheKernel();
        rowByItself();
        filterFirstNamed();
        filteredAgain();
        Expect.finish();
    }

    /** Row 2 has -9999 in it, row 3 nothing. */
    private static ButterflyYard filled() {
        return rows(new int[] {1, -2, 3}, new int[] {10, 20}, new int[] {5, -9999}, new int[] {});
    }

    private static ButterflyYard rows(int[]... rows) {
        ButterflyYard yard = new ButterflyYard();
        for (int row = 0; row < rows.length; row++) {
            Expect.fill(yard, row, rows[row]);
        }
        return yard;
    }

    private static int[] flat(int entry, int length) {
        int[] made = new int[length];
        Arrays.fill(made, entry);
        return made;
    }

    private static int[] single(int place, int entry, int length) {
        int[] made = new int[length];
        made[place] = entry;
        return made;
    }

    private static int[] mixed(int length, int step) {
        int[] made = new int[length];
        for (int number = 0; number < length; number++) {
            made[number] = (number + 1) * step % 199 - 99;
        }
        return made;
    }

    private static String text(int[] row) {
        StringBuilder text = new StringBuilder();
        for (int entry : row) {
            text.append(text.length() == 0 ? "" : " ").append(entry);
        }
        return text.toString();
    }

    private static int[] products(int[] signal, int[] kernel) {
        int[] made = new int[signal.length + kernel.length - 1];
        for (int j = 0; j < signal.length; j++) {
            for (int i = 0; i < kernel.length; i++) {
                made[j + i] += signal[j] * kernel[i];
            }
        }
        return made;
    }

    private static void filtered(String due, int[] signal, int[] kernel, int block) {
        for (boolean save : BOTH) {
            ButterflyYard yard = rows(signal, kernel);
            String call = "filter of " + text(signal) + " by " + text(kernel) + " in blocks of " + block + ", save " + save;
            Expect.answer(signal.length + kernel.length - 1, call, () -> yard.filter(0, 1, 2, block, save));
            Expect.same(due, Expect.row(yard, 2), call);
        }
    }

    private static void refused(Expect.Maker maker, Class<? extends RuntimeException> due, String call,
            int signal, int kernel, int target, int block) {
        for (boolean save : BOTH) {
            Expect.unchanged(maker, due, "filter, save " + save + ": " + call, yard -> yard.filter(signal, kernel, target, block, save));
        }
    }

    /** "signal: 0 to 3", "kernel: 0 to 3", "target: 0 to 3": each row at each place. */
    private static void rowsThatThereAre() {
        for (int signal = 0; signal < 4; signal++) {
            for (int kernel = 0; kernel < 4; kernel++) {
                for (int target = 0; target < 4; target++) {
                    for (boolean save : BOTH) {
                        int[][] rows = {{2, 1}, {3, 1}, {4, 1}, {5, 1}};
                        ButterflyYard yard = rows(rows);
                        int heard = signal;
                        int response = kernel;
                        int written = target;
                        String call = "filter(" + signal + ", " + kernel + ", " + target + ", 1, " + save + ")";
                        Expect.answer(3, call, () -> yard.filter(heard, response, written, 1, save));
                        rows[target] = products(rows[signal], rows[kernel]);
                        Expect.same(Expect.state(rows(rows)), Expect.state(yard), "the state after " + call);
                    }
                }
            }
        }
    }

    /** "Throws IndexOutOfBoundsException if there is no such row", at each place. */
    private static void noRowBesides() {
        for (int none : NO_ROWS) {
            refused(FilterBoundsTest::filled, INDEX, "no signal " + none, none, 1, 3, 1);
            refused(FilterBoundsTest::filled, INDEX, "no kernel " + none, 0, none, 3, 1);
            refused(FilterBoundsTest::filled, INDEX, "no target " + none, 0, 1, none, 1);
            refused(FilterBoundsTest::filled, INDEX, "no row " + none, none, none, none, 32);
        }
    }

    /** "block: 1 to 32" */
    private static void leastAndLargestBlock() {
        for (int block : new int[] {1, 2, 31, 32}) {
            filtered("10 0 -10 60", new int[] {1, -2, 3}, new int[] {10, 20}, block);
            filtered("12", new int[] {3}, new int[] {4}, block);
            filtered(text(flat(6, 64)), flat(2, 64), new int[] {3}, block);
            filtered(text(flat(6, 64)), new int[] {3}, flat(2, 64), block);
        }
    }

    /** "Throws IllegalArgumentException if block is out of range" */
    private static void noBlockBesides() {
        for (int none : NO_BLOCKS) {
            refused(FilterBoundsTest::filled, ARGUMENT, "block " + none, 0, 1, 3, none);
            refused(FilterBoundsTest::filled, ARGUMENT, "block " + none + ", a row by itself", 1, 1, 1, none);
        }
    }

    /** "Or an entry of the signal or the kernel is not -99 to 99": -99 and 99 are. */
    private static void leastAndLargestEntries() {
        for (int block : new int[] {1, 3, 32}) {
            filtered("9801", new int[] {99}, new int[] {99}, block);
            filtered("-9801", new int[] {-99}, new int[] {99}, block);
            filtered("9801", new int[] {-99}, new int[] {-99}, block);
            filtered("-9801 9801 -9801 9801", new int[] {99, 0, 99}, new int[] {-99, 99}, block);
        }
    }

    /** "Throws IllegalArgumentException if .. an entry of the signal or the kernel is not -99 to 99", the first, the last or one between. */
    private static void noEntryBesides() {
        for (int none : new int[] {-100, 100, -9999, 9999}) {
            for (int place = 0; place < 5; place++) {
                int[] row = flat(1, 5);
                row[place] = none;
                String call = none + " at " + place;
                refused(() -> rows(row, flat(2, 3)), ARGUMENT, "signal with " + call, 0, 1, 3, 2);
                refused(() -> rows(flat(2, 3), row), ARGUMENT, "kernel with " + call, 0, 1, 3, 2);
                refused(() -> rows(row, row), ARGUMENT, "both with " + call, 0, 1, 3, 2);
                refused(() -> rows(row), ARGUMENT, "a row by itself with " + call, 0, 0, 0, 2);
            }
            int[] full = flat(0, 64);
            full[63] = none;
            refused(() -> rows(full, flat(2, 1)), ARGUMENT, "a full signal with " + none, 0, 1, 3, 32);
            refused(() -> rows(flat(2, 1), full), ARGUMENT, "a full kernel with " + none, 0, 1, 3, 32);
        }
    }

    /** "An entry of the signal or the kernel": not one of the target, of another row, or one that a row had before. */
    private static void entriesOfOtherRows() {
        for (boolean save : BOTH) {
            ButterflyYard yard = filled();
            Expect.answer(4, "filter onto a row with -9999", () -> yard.filter(0, 1, 2, 2, save));
            Expect.same("10 0 -10 60", Expect.row(yard, 2), "filter onto a row with -9999");
            ButterflyYard other = rows(new int[] {1, 100}, new int[] {2, -100, 100}, new int[] {-9999});
            Expect.fill(other, 0, 1);
            Expect.fill(other, 1, 2, 3);
            Expect.answer(2, "filter of rows that had 100", () -> other.filter(0, 1, 3, 2, save));
            Expect.same("[1][2 3][-9999][2 3]0", Expect.state(other), "filter of rows that had 100");
        }
    }

    /** "The sum of all products": as many of 99 and -99 as there can be. */
    private static void largestSums() {
        for (int block : new int[] {1, 5, 31, 32}) {
            filtered(text(products(flat(99, 32), flat(99, 33))), flat(99, 32), flat(99, 33), block);
            filtered(text(products(flat(-99, 33), flat(99, 32))), flat(-99, 33), flat(99, 32), block);
        }
        ButterflyYard yard = rows(flat(99, 33), flat(99, 32));
        yard.filter(0, 1, 2, 32, true);
        Expect.answer(32 * 99 * 99, "the largest entry", () -> yard.at(2, 31));
        Expect.answer(32 * 99 * 99, "the largest entry again", () -> yard.at(2, 32));
        Expect.answer(31 * 99 * 99, "the entry after", () -> yard.at(2, 33));
    }

    /** "Throws IllegalStateException if the signal or the kernel is empty", not if it has one entry. */
    private static void nothingEmpty() {
        for (int block : new int[] {1, 32}) {
            refused(FilterBoundsTest::filled, STATE, "an empty signal", 3, 0, 2, block);
            refused(FilterBoundsTest::filled, STATE, "an empty signal onto the kernel", 3, 0, 0, block);
            refused(FilterBoundsTest::filled, STATE, "an empty kernel", 0, 3, 2, block);
            refused(FilterBoundsTest::filled, STATE, "an empty kernel onto the signal", 0, 3, 0, block);
            refused(FilterBoundsTest::filled, STATE, "an empty row by itself", 3, 3, 3, block);
            refused(() -> rows(flat(1, 64), flat(0, 0)), STATE, "a full signal and an empty kernel", 0, 1, 2, block);
            refused(() -> rows(flat(1, 64), flat(0, 0)), STATE, "an empty signal and a full kernel", 1, 0, 2, block);
            filtered("0", new int[] {0}, new int[] {5}, block);
            filtered("0 0 0", new int[] {0, 0, 0}, new int[] {0}, block);
        }
    }

    /** "Or the target would have more than 64 entries": not if it would have 64. */
    private static void upToSixtyFour() {
        for (int heard = 1; heard <= 64; heard++) {
            for (int block : new int[] {1, 2, 7, 16, 31, 32}) {
                int[] signal = mixed(heard, 37);
                int[] kernel = mixed(65 - heard, 53);
                filtered(text(products(signal, kernel)), signal, kernel, block);
            }
        }
    }

    /** "Throws IllegalStateException if .. the target would have more than 64 entries": 65, up to 127. */
    private static void noMoreThanSixtyFour() {
        int[][] lengths = {{64, 2}, {2, 64}, {33, 33}, {34, 32}, {32, 34}, {63, 3}, {64, 64}, {64, 63}};
        for (int[] both : lengths) {
            String call = both[0] + " by " + both[1];
            for (int target = 0; target < 3; target++) {
                refused(() -> rows(flat(1, both[0]), flat(2, both[1])), STATE, call, 0, 1, target, 32);
            }
        }
        refused(() -> rows(flat(1, 33)), STATE, "33 by themselves", 0, 0, 0, 1);
        refused(() -> rows(flat(1, 64)), STATE, "64 by themselves", 0, 0, 1, 32);
    }

    /** "For which j + i is k": the last by the last is the last, and does not go round. */
    private static void nothingGoesRound() {
        for (int block : new int[] {1, 2, 3, 4, 31, 32}) {
            filtered("0 0 0 0 12", single(2, 3, 3), single(2, 4, 3), block);
            filtered(text(single(63, 12, 64)), single(31, 3, 32), single(32, 4, 33), block);
            filtered(text(single(63, 12, 64)), single(63, 3, 64), new int[] {4}, block);
            filtered(text(single(63, 12, 64)), new int[] {3}, single(63, 4, 64), block);
            filtered(text(single(0, 12, 64)), single(0, 3, 32), single(0, 4, 33), block);
        }
    }

    /** "Block by block of the signal": signals of one entry less than some blocks, as many, one more. */
    private static void seamsOfBlocks() {
        for (int block = 1; block <= 32; block++) {
            for (int blocks = 1; blocks <= 3; blocks++) {
                for (int heard = blocks * block - 1; heard <= blocks * block + 1; heard++) {
                    for (int response : new int[] {1, 2, block, block + 1}) {
                        if (heard >= 1 && heard + response <= 65) {
                            int[] signal = mixed(heard, 41);
                            int[] kernel = mixed(response, 29);
                            filtered(text(products(signal, kernel)), signal, kernel, block);
                        }
                    }
                }
            }
        }
    }

    /** "Blocks that reach back over those before": over many of them, if the kernel is long. */
    private static void kernelsLongerThanBlocks() {
        for (int block : new int[] {1, 2, 3, 8}) {
            for (int response : new int[] {block + 1, 2 * block, 2 * block + 1, 50, 63, 64}) {
                int[] signal = mixed(Math.min(5, 65 - response), 61);
                int[] kernel = mixed(response, 17);
                filtered(text(products(signal, kernel)), signal, kernel, block);
            }
        }
    }

    /** "Both lead to the same entries", in blocks of every length. */
    private static void bothLeadToTheSame() {
        int[] signal = mixed(40, 71);
        int[] kernel = mixed(25, 83);
        for (int block = 1; block <= 32; block++) {
            ButterflyYard yard = rows(signal, kernel);
            yard.filter(0, 1, 2, block, false);
            yard.filter(0, 1, 3, block, true);
            Expect.same(Expect.row(yard, 2), Expect.row(yard, 3), "both ways in blocks of " + block);
            Expect.same(text(products(signal, kernel)), Expect.row(yard, 2), "overlap-add in blocks of " + block);
        }
    }

    /** "Convolves a signal with a kernel: the target has": the two stay, and so do the plans. */
    private static void targetBesides() {
        for (boolean save : BOTH) {
            ButterflyYard yard = filled();
            yard.plan(7, 6);
            Expect.answer(4, "filter onto an empty row", () -> yard.filter(0, 1, 3, 2, save));
            Expect.same("[1 -2 3][10 20][5 -9999][10 0 -10 60]1(3 23)", Expect.state(yard), "the state after filter");
        }
    }

    /** "The target has as many entries as both together, less 1", whatever it had. */
    private static void targetsOfAnyLength() {
        for (int length : new int[] {0, 3, 4, 5, 64}) {
            for (boolean save : BOTH) {
                ButterflyYard yard = rows(new int[] {1, -2, 3}, new int[] {10, 20}, flat(8, length));
                Expect.answer(4, "filter onto a row of " + length, () -> yard.filter(0, 1, 2, 1, save));
                Expect.same("[1 -2 3][10 20][10 0 -10 60][]0", Expect.state(yard), "the state after filter onto a row of " + length);
            }
        }
    }

    /** "target: 0 to 3, which may be one of them": the signal. */
    private static void targetIsTheSignal() {
        for (int block : new int[] {1, 2, 32}) {
            for (boolean save : BOTH) {
                ButterflyYard yard = filled();
                Expect.answer(4, "filter onto the signal", () -> yard.filter(0, 1, 0, block, save));
                Expect.same("[10 0 -10 60][10 20][5 -9999][]0", Expect.state(yard), "the state after filter onto the signal");
            }
        }
    }

    /** "target: 0 to 3, which may be one of them": the kernel. */
    private static void targetIsTheKernel() {
        for (int block : new int[] {1, 2, 32}) {
            for (boolean save : BOTH) {
                ButterflyYard yard = filled();
                Expect.answer(4, "filter onto the kernel", () -> yard.filter(0, 1, 1, block, save));
                Expect.same("[1 -2 3][10 0 -10 60][5 -9999][]0", Expect.state(yard), "the state after filter onto the kernel");
            }
        }
    }

    /** "kernel: 0 to 3, which may be the same", of up to 32 entries. */
    private static void rowByItself() {
        for (int block : new int[] {1, 2, 32}) {
            for (boolean save : BOTH) {
                ButterflyYard yard = filled();
                Expect.answer(5, "filter a row by itself", () -> yard.filter(0, 0, 3, block, save));
                Expect.same("[1 -2 3][10 20][5 -9999][1 -4 10 -12 9]0", Expect.state(yard), "the state after a row by itself");
                Expect.answer(5, "filter a row by itself onto itself", () -> yard.filter(0, 0, 0, block, save));
                Expect.same("[1 -4 10 -12 9][10 20][5 -9999][1 -4 10 -12 9]0", Expect.state(yard), "the state then");
                ButterflyYard full = rows(mixed(32, 47));
                Expect.answer(63, "filter 32 by themselves onto themselves", () -> full.filter(0, 0, 0, block, save));
                Expect.same(text(products(mixed(32, 47), mixed(32, 47))), Expect.row(full, 0), "32 by themselves");
            }
        }
    }

    /** "If several apply, the one that the throws clause names first is thrown." */
    private static void filterFirstNamed() {
        Expect.Maker two = () -> rows(flat(1, 33), flat(100, 33), flat(-100, 64), flat(0, 0));
        for (int none : NO_ROWS) {
            refused(two, INDEX, "no signal, no block", none, 0, 3, 0);
            refused(two, INDEX, "no kernel, no block", 0, none, 3, 33);
            refused(two, INDEX, "no target, no block", 0, 3, none, 0);
            refused(two, INDEX, "no signal, 100", none, 1, 3, 1);
            refused(two, INDEX, "no kernel, 100", 1, none, 3, 1);
            refused(two, INDEX, "no target, 100", 0, 1, none, 1);
            refused(two, INDEX, "no signal, an empty kernel", none, 3, 3, 1);
            refused(two, INDEX, "no kernel, an empty signal", 3, none, 3, 1);
            refused(two, INDEX, "no target, an empty signal", 3, 0, none, 1);
            refused(two, INDEX, "no target, 65 entries", 0, 0, none, 1);
        }
        for (int none : NO_BLOCKS) {
            refused(two, ARGUMENT, "no block, an empty signal", 3, 0, 3, none);
            refused(two, ARGUMENT, "no block, an empty kernel", 0, 3, 3, none);
            refused(two, ARGUMENT, "no block, both empty", 3, 3, 3, none);
            refused(two, ARGUMENT, "no block, 65 entries", 0, 0, 3, none);
        }
        refused(two, ARGUMENT, "100, an empty signal", 3, 1, 3, 1);
        refused(two, ARGUMENT, "100, an empty kernel", 1, 3, 3, 1);
        refused(two, ARGUMENT, "100, 65 entries", 0, 1, 3, 1);
        refused(two, ARGUMENT, "-100, 96 entries", 2, 0, 3, 32);
        refused(two, STATE, "65 entries alone", 0, 0, 3, 32);
    }

    /** "An entry of the signal or the kernel is not -99 to 99", though a filter made it. */
    private static void filteredAgain() {
        Expect.Maker made = () -> {
            ButterflyYard yard = rows(new int[] {9, 1}, new int[] {11, 1}, new int[] {10}, new int[] {-10});
            yard.filter(0, 1, 0, 1, false);
            yard.filter(2, 2, 1, 1, false);
            yard.filter(2, 3, 3, 1, false);
            return yard;
        };
        Expect.same("[99 20 1][100][10][-100]0", Expect.state(made.made()), "what the filters made");
        refused(made, ARGUMENT, "a made 100", 1, 2, 1, 1);
        refused(made, ARGUMENT, "a made -100", 2, 3, 1, 1);
        for (boolean save : BOTH) {
            ButterflyYard yard = made.made();
            Expect.answer(5, "filter of a made 99", () -> yard.filter(0, 0, 3, 1, save));
            Expect.same("9801 3960 598 40 1", Expect.row(yard, 3), "filter of a made 99");
        }
    }
}
