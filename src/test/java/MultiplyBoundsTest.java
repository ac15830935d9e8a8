import java.math.BigInteger;
import java.util.Arrays;

/** The boundary cases of promise 17: a method for each sentence of the document, which stands above it. */
public final class MultiplyBoundsTest {
    private static final Class<IndexOutOfBoundsException> INDEX = IndexOutOfBoundsException.class;
    private static final Class<IllegalArgumentException> ARGUMENT = IllegalArgumentException.class;
    private static final Class<IllegalStateException> STATE = IllegalStateException.class;
    private static final int[] NO_ROWS = {-1, 4, -4, Integer.MIN_VALUE, Integer.MAX_VALUE};

    public static void main(String[] args) {
        rowsThatThereAre();
        noRowBesides();
        lowestDigitFirst();
        leastAndLargestDigits();
        noDigitBesides();
        digitsOfOtherRows();
        noZerosAhead();
        zerosBelowStay();
        productOfNothing();
        carries();
        nothingEmpty();
        upToSixtyFour();
        noMoreThanSixtyFour();
        zerosAheadCountToo();
        targetBesides();
        targetsOfAnyLength();
        targetIsTheOne();
        targetIsTheOther();
        rowByItself();
        multiplyFirstNamed();
        Expect.finish();
    }

    /** 43 in row 0, 12 in row 1, 100 as an entry of row 2, nothing in row 3. */
    private static ButterflyYard filled() {
        return rows(new int[] {3, 4}, new int[] {2, 1}, new int[] {1, 100}, new int[] {});
    }

    private static ButterflyYard rows(int[]... rows) {
        ButterflyYard yard = new ButterflyYard();
        for (int row = 0; row < rows.length; row++) {
            Expect.fill(yard, row, rows[row]);
        }
        return yard;
    }

    private static int[] flat(int entry, int length) {
        int[] made = new int[length];
        Arrays.fill(made, entry);
        return made;
    }

    /** The digits of a number, the lowest one first, with zeros ahead of it up to a length. */
    private static int[] digits(String number, int length) {
        int[] made = new int[length];
        for (int place = 0; place < number.length(); place++) {
            made[place] = number.charAt(number.length() - 1 - place) - '0';
        }
        return made;
    }

    private static int[] digits(String number) {
        return digits(number, number.length());
    }

    private static String text(int[] row) {
        StringBuilder text = new StringBuilder();
        for (int entry : row) {
            text.append(text.length() == 0 ? "" : " ").append(entry);
        }
        return text.toString();
    }

    private static void product(String due, int[] one, int[] other) {
        ButterflyYard yard = rows(one, other);
        String call = "multiply " + text(one) + " by " + text(other);
        Expect.answer(due.length(), call, () -> yard.multiply(0, 1, 2));
        Expect.same(text(digits(due)), Expect.row(yard, 2), call);
        Expect.answer(due.length(), call + ", turned round", () -> yard.multiply(1, 0, 3));
        Expect.same(text(digits(due)), Expect.row(yard, 3), call + ", turned round");
    }

    private static void refused(Expect.Maker maker, Class<? extends RuntimeException> due, String call, int one, int other, int target) {
        Expect.unchanged(maker, due, "multiply: " + call, yard -> yard.multiply(one, other, target));
    }

    /** "one: 0 to 3", "other: 0 to 3", "target: 0 to 3": each row at each place. */
    private static void rowsThatThereAre() {
        String[] numbers = {"2", "3", "45", "99"};
        for (int one = 0; one < 4; one++) {
            for (int other = 0; other < 4; other++) {
                for (int target = 0; target < 4; target++) {
                    int[][] rows = {digits("2"), digits("3"), digits("45"), digits("99")};
                    ButterflyYard yard = rows(rows);
                    int first = one;
                    int second = other;
                    int written = target;
                    String due = new BigInteger(numbers[one]).multiply(new BigInteger(numbers[other])).toString();
                    String call = "multiply(" + one + ", " + other + ", " + target + ")";
                    Expect.answer(due.length(), call, () -> yard.multiply(first, second, written));
                    rows[target] = digits(due);
                    Expect.same(Expect.state(rows(rows)), Expect.state(yard), "the state after " + call);
                }
            }
        }
    }

    /** "Throws IndexOutOfBoundsException if there is no such row", at each place. */
    private static void noRowBesides() {
        for (int none : NO_ROWS) {
            refused(MultiplyBoundsTest::filled, INDEX, "no one " + none, none, 1, 3);
            refused(MultiplyBoundsTest::filled, INDEX, "no other " + none, 0, none, 3);
            refused(MultiplyBoundsTest::filled, INDEX, "no target " + none, 0, 1, none);
            refused(MultiplyBoundsTest::filled, INDEX, "no row " + none, none, none, none);
        }
    }

    /** "The entries of a row are the digits of its number, the lowest one first." */
    private static void lowestDigitFirst() {
        product("10000000001", digits("10000000001"), digits("1"));
        product("120", new int[] {0, 4}, new int[] {3});
        product("12", new int[] {4, 0}, new int[] {3});
        product("516", new int[] {3, 4}, new int[] {2, 1});
    }

    /** "If an entry of one of the two is not 0 to 9": 0 and 9 are; each digit by each. */
    private static void leastAndLargestDigits() {
        for (int one = 0; one <= 9; one++) {
            for (int other = 0; other <= 9; other++) {
                product(Integer.toString(one * other), new int[] {one}, new int[] {other});
            }
        }
        product("9801", digits("99"), digits("99"));
        product("81", new int[] {9, 0, 0}, new int[] {9, 0});
    }

    /** "Throws IllegalArgumentException if an entry of one of the two is not 0 to 9", the first, the last or one between. */
    private static void noDigitBesides() {
        for (int none : new int[] {-1, 10, -9, 11, -9999, 9999}) {
            for (int place = 0; place < 5; place++) {
                int[] row = flat(1, 5);
                row[place] = none;
                String call = none + " at " + place;
                for (int target = 0; target < 4; target++) {
                    refused(() -> rows(row, flat(2, 3)), ARGUMENT, "one with " + call, 0, 1, target);
                    refused(() -> rows(flat(2, 3), row), ARGUMENT, "other with " + call, 0, 1, target);
                    refused(() -> rows(row), ARGUMENT, "a row by itself with " + call, 0, 0, target);
                }
            }
            int[] full = flat(0, 63);
            full[62] = none;
            refused(() -> rows(full, flat(2, 1)), ARGUMENT, "63 digits with " + none, 0, 1, 3);
            refused(() -> rows(flat(2, 1), full), ARGUMENT, "by 63 digits with " + none, 0, 1, 3);
        }
    }

    /** "An entry of one of the two": not one of the target, of another row, or one that a row had before. */
    private static void digitsOfOtherRows() {
        ButterflyYard yard = filled();
        Expect.answer(3, "multiply onto a row with 100", () -> yard.multiply(0, 1, 2));
        Expect.same("[3 4][2 1][6 1 5][]0", Expect.state(yard), "multiply onto a row with 100");
        ButterflyYard other = rows(new int[] {1, 10}, new int[] {2, -1, 10}, new int[] {-9999});
        Expect.fill(other, 0, 7);
        Expect.fill(other, 1, 2, 3);
        Expect.answer(3, "multiply rows that had 10", () -> other.multiply(0, 1, 3));
        Expect.same("[7][2 3][-9999][4 2 2]0", Expect.state(other), "multiply rows that had 10");
    }

    /** "Without zeros ahead of the highest one that is not 0" */
    private static void noZerosAhead() {
        product("1", digits("1"), digits("1"));
        product("9", digits("3"), digits("3"));
        product("10", digits("2"), digits("5"));
        product("99", digits("99"), digits("1"));
        product("1188", digits("99", 7), digits("12", 9));
        product("1", digits("1", 32), digits("1", 32));
        product("12", digits("4", 63), digits("3"));
        product("25", digits("5", 2), digits("5", 62));
    }

    /** "Without zeros ahead of the highest one that is not 0": those below it stay. */
    private static void zerosBelowStay() {
        product("100", digits("10"), digits("10"));
        product("1001", digits("91"), digits("11"));
        product("10000", digits("125"), digits("80"));
        String power = "1" + "0".repeat(31);
        product("1" + "0".repeat(62), digits(power), digits(power));
        product("1" + "0".repeat(63), digits("2" + "0".repeat(62)), digits("5"));
    }

    /** "Just one 0, if the product is 0" */
    private static void productOfNothing() {
        product("0", flat(0, 1), flat(0, 1));
        product("0", flat(0, 1), flat(9, 63));
        product("0", flat(0, 63), flat(9, 1));
        product("0", flat(0, 32), flat(9, 32));
        product("0", flat(0, 32), flat(0, 32));
        ButterflyYard yard = rows(flat(0, 5), flat(7, 3));
        Expect.answer(1, "multiply zeros onto themselves", () -> yard.multiply(0, 0, 0));
        Expect.answer(1, "multiply by zero onto the other", () -> yard.multiply(0, 1, 1));
        Expect.same("[0][0][][]0", Expect.state(yard), "the state after products of 0");
    }

    /** "The target has the digits of the product": carried over all the digits, and into one more. */
    private static void carries() {
        for (int length = 1; length <= 32; length++) {
            String nines = "9".repeat(length);
            product(new BigInteger(nines).pow(2).toString(), digits(nines), digits(nines));
            String ones = "1".repeat(length);
            product(new BigInteger(ones).multiply(new BigInteger(nines)).toString(), digits(ones), digits(nines));
        }
        for (int length = 1; length <= 63; length++) {
            String nines = "9".repeat(length);
            product("8" + "9".repeat(length - 1) + "1", digits(nines), digits("9"));
            product("1" + "0".repeat(length), digits("5" + "0".repeat(length - 1)), digits("2"));
        }
    }

    /** "Throws IllegalStateException if one of the two is empty" */
    private static void nothingEmpty() {
        for (int target = 0; target < 4; target++) {
            refused(MultiplyBoundsTest::filled, STATE, "nothing by digits", 3, 0, target);
            refused(MultiplyBoundsTest::filled, STATE, "digits by nothing", 0, 3, target);
            refused(MultiplyBoundsTest::filled, STATE, "nothing by nothing", 3, 3, target);
            refused(() -> rows(flat(9, 64)), STATE, "64 digits by nothing", 0, 1, target);
            refused(() -> rows(flat(9, 64)), STATE, "nothing by 64 digits", 1, 0, target);
        }
    }

    /** "Or both have more than 64 entries together": not if they have 64. */
    private static void upToSixtyFour() {
        for (int length = 1; length <= 63; length++) {
            String one = "7384950261".repeat(7).substring(0, length);
            String other = "9182736450".repeat(7).substring(0, 64 - length);
            product(new BigInteger(one).multiply(new BigInteger(other)).toString(), digits(one), digits(other));
        }
    }

    /** "Throws IllegalStateException if .. both have more than 64 entries together": 65, up to 128. */
    private static void noMoreThanSixtyFour() {
        for (int[] both : new int[][] {{64, 1}, {1, 64}, {33, 32}, {32, 33}, {63, 2}, {2, 63}, {64, 64}}) {
            for (int target = 0; target < 3; target++) {
                refused(() -> rows(flat(1, both[0]), flat(1, both[1])), STATE, both[0] + " by " + both[1], 0, 1, target);
            }
        }
        refused(() -> rows(flat(1, 33)), STATE, "33 by themselves", 0, 0, 0);
        refused(() -> rows(flat(1, 64)), STATE, "64 by themselves", 0, 0, 1);
    }

    /** "Both have more than 64 entries together": entries, though they be zeros ahead and the product short. */
    private static void zerosAheadCountToo() {
        refused(() -> rows(digits("2", 33), digits("3", 32)), STATE, "33 by 32 with zeros ahead", 0, 1, 2);
        refused(() -> rows(flat(0, 64), flat(0, 1)), STATE, "64 zeros by a zero", 0, 1, 2);
        refused(() -> rows(flat(0, 33)), STATE, "33 zeros by themselves", 0, 0, 1);
        product("6", digits("2", 32), digits("3", 32));
    }

    /** "The target has the digits of the product then": the two stay, with their zeros ahead, and so do the plans. */
    private static void targetBesides() {
        ButterflyYard yard = rows(digits("12", 4), digits("3", 2), flat(9, 1));
        yard.plan(7, 6);
        Expect.answer(2, "multiply onto an empty row", () -> yard.multiply(0, 1, 3));
        Expect.same("[2 1 0 0][3 0][9][6 3]1(3 23)", Expect.state(yard), "the state after multiply");
    }

    /** "The target has the digits of the product then", whatever it had. */
    private static void targetsOfAnyLength() {
        for (int length : new int[] {0, 1, 2, 3, 4, 64}) {
            ButterflyYard yard = rows(digits("43"), digits("12"), flat(8, length));
            Expect.answer(3, "multiply onto a row of " + length, () -> yard.multiply(0, 1, 2));
            Expect.same("[3 4][2 1][6 1 5][]0", Expect.state(yard), "the state after multiply onto a row of " + length);
        }
    }

    /** "target: 0 to 3, which may be one of them": the first. */
    private static void targetIsTheOne() {
        ButterflyYard yard = filled();
        Expect.answer(3, "multiply onto the one", () -> yard.multiply(0, 1, 0));
        Expect.same("[6 1 5][2 1][1 100][]0", Expect.state(yard), "the state after multiply onto the one");
    }

    /** "target: 0 to 3, which may be one of them": the second. */
    private static void targetIsTheOther() {
        ButterflyYard yard = filled();
        Expect.answer(3, "multiply onto the other", () -> yard.multiply(0, 1, 1));
        Expect.same("[3 4][6 1 5][1 100][]0", Expect.state(yard), "the state after multiply onto the other");
    }

    /** "other: 0 to 3, which may be the same": its digits count twice, so that 32 are the most. */
    private static void rowByItself() {
        ButterflyYard yard = filled();
        Expect.answer(4, "multiply a row by itself", () -> yard.multiply(0, 0, 3));
        Expect.same("[3 4][2 1][1 100][9 4 8 1]0", Expect.state(yard), "the state after a row by itself");
        Expect.answer(4, "multiply a row by itself onto itself", () -> yard.multiply(0, 0, 0));
        Expect.same("[9 4 8 1][2 1][1 100][9 4 8 1]0", Expect.state(yard), "the state then");
        ButterflyYard longest = rows(flat(9, 32));
        Expect.answer(64, "multiply 32 nines by themselves onto themselves", () -> longest.multiply(0, 0, 0));
        String due = new BigInteger("9".repeat(32)).pow(2).toString();
        Expect.same(text(digits(due)), Expect.row(longest, 0), "32 nines by themselves");
        Expect.thrown(STATE, "multiply the 64 digits then by themselves", () -> longest.multiply(0, 0, 1));
    }

    /** "If several apply, the one that the throws clause names first is thrown." */
    private static void multiplyFirstNamed() {
        Expect.Maker maker = () -> rows(flat(1, 33), flat(10, 33), new int[] {-1}, flat(0, 0));
        for (int none : NO_ROWS) {
            refused(maker, INDEX, "no one, -1", none, 2, 3);
            refused(maker, INDEX, "no other, -1", 2, none, 3);
            refused(maker, INDEX, "no target, 10", 0, 1, none);
            refused(maker, INDEX, "no one, nothing", none, 3, 3);
            refused(maker, INDEX, "no other, nothing", 3, none, 3);
            refused(maker, INDEX, "no target, nothing", 3, 0, none);
            refused(maker, INDEX, "no target, 66 digits", 0, 0, none);
        }
        for (int target = 0; target < 4; target++) {
            refused(maker, ARGUMENT, "-1 by nothing", 2, 3, target);
            refused(maker, ARGUMENT, "nothing by 10", 3, 1, target);
            refused(maker, ARGUMENT, "33 digits by 33 entries of 10", 0, 1, target);
            refused(maker, ARGUMENT, "33 entries of 10 by themselves", 1, 1, target);
            refused(maker, STATE, "33 digits by themselves", 0, 0, target);
        }
    }
}
