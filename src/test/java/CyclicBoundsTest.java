import java.util.Arrays;

/** The boundary cases of promises 14 and 15: a method for each sentence of the document, which stands above it. */
public final class CyclicBoundsTest {
    private static final Class<IndexOutOfBoundsException> INDEX = IndexOutOfBoundsException.class;
    private static final Class<IllegalStateException> STATE = IllegalStateException.class;
    private static final int[] NO_ROWS = {-1, 4, -4, Integer.MIN_VALUE, Integer.MAX_VALUE};
    private static final int[] NO_PLANS = {-1, 3, 7, 8, Integer.MIN_VALUE, Integer.MAX_VALUE};

    public static void main(String[] args) {
        plansAndRowsThatThereAre();
        noPlanBesides();
        noRowBesides();
        nothingGoesRound();
        sumsGoRound();
        shortestAndLongestGoRound();
        remaindersAlone();
        largestSums();
        emptyRows();
        clearedEntriesCountAsNone();
        rowsUpToThePlan();
        noRowLongerThanThePlan();
        targetsOfAnyLength();
        targetBesides();
        targetIsTheOne();
        targetIsTheOther();
        rowWithItself();
        convolveFirstNamed();
        firstAndLastEntry();
        noEntryBesides();
        convolvedFirstNamed();
        convolvedChangesNothing();
        convolvedAsConvolve();
        Expect.finish();
    }

    /** Plan 0 has the length 3, plan 1 the length 4, plan 2 the length 1; row 3 is empty. */
    private static ButterflyYard filled() {
        ButterflyYard yard = new ButterflyYard();
        yard.plan(7, 3);
        yard.plan(5, 4);
        yard.plan(7, 1);
        Expect.fill(yard, 0, 1, 2, 3);
        Expect.fill(yard, 1, 4, -1);
        Expect.fill(yard, 2, 9, 9, 9, 9);
        return yard;
    }

    private static final String PLANS = "3(2 27)(2 19)(1 19)";

    private static ButterflyYard twoRows(int prime, int length, int[] one, int[] other) {
        ButterflyYard yard = new ButterflyYard();
        yard.plan(prime, length);
        Expect.fill(yard, 0, one);
        Expect.fill(yard, 1, other);
        return yard;
    }

    /** As convolve answers it, and as convolved answers each entry of it. */
    private static void convolution(String due, int prime, int length, int[] one, int[] other) {
        ButterflyYard yard = twoRows(prime, length, one, other);
        String call = " by (" + prime + ", " + length + ") of " + Expect.row(yard, 0) + " with " + Expect.row(yard, 1);
        StringBuilder told = new StringBuilder();
        for (int entry = 0; entry < length; entry++) {
            told.append(entry == 0 ? "" : " ").append(yard.convolved(0, 0, 1, entry));
        }
        Expect.same(due, told.toString(), "convolved" + call);
        Expect.answer(length, "convolve" + call, () -> yard.convolve(0, 0, 1, 2));
        Expect.same(due, Expect.row(yard, 2), "convolve" + call);
    }

    private static int[] flat(int entry, int length) {
        int[] made = new int[length];
        Arrays.fill(made, entry);
        return made;
    }

    private static int[] single(int place, int entry, int length) {
        int[] made = new int[length];
        made[place] = entry;
        return made;
    }

    private static String text(int[] row) {
        StringBuilder text = new StringBuilder();
        for (int entry : row) {
            text.append(text.length() == 0 ? "" : " ").append(entry);
        }
        return text.toString();
    }

    /** "plan: the number of a plan", "0 to 3": the first and the last of each. */
    private static void plansAndRowsThatThereAre() {
        ButterflyYard yard = new ButterflyYard();
        for (int plan = 0; plan < 8; plan++) {
            yard.plan(plan == 7 ? 7 : 5, 2);
        }
        Expect.fill(yard, 0, 1, 2);
        Expect.fill(yard, 3, 3, 4);
        Expect.answer(1, "convolved by plan 0 of rows 0 and 3", () -> yard.convolved(0, 0, 3, 0));
        Expect.answer(4, "convolved by plan 7 of rows 3 and 0", () -> yard.convolved(7, 3, 0, 0));
        Expect.answer(2, "convolve by plan 7 of rows 3 and 0 to row 0", () -> yard.convolve(7, 3, 0, 0));
        Expect.same("4 3", Expect.row(yard, 0), "rows 3 and 0 by plan 7");
        Expect.answer(2, "convolve by plan 0 of rows 0 and 3 to row 3", () -> yard.convolve(0, 0, 3, 3));
        Expect.same("4 0", Expect.row(yard, 3), "rows 0 and 3 by plan 0");
        Expect.thrown(INDEX, "convolve by plan 8", () -> yard.convolve(8, 0, 3, 3));
    }

    /** "Throws IndexOutOfBoundsException if there is no such plan or row": no such plan. */
    private static void noPlanBesides() {
        for (int none : NO_PLANS) {
            Expect.unchanged(CyclicBoundsTest::filled, INDEX, "convolve by plan " + none, yard -> yard.convolve(none, 0, 1, 3));
            Expect.unchanged(CyclicBoundsTest::filled, INDEX, "convolved by plan " + none, yard -> yard.convolved(none, 0, 1, 0));
        }
    }

    /** "Throws IndexOutOfBoundsException if there is no such plan or row": no such row, at each place. */
    private static void noRowBesides() {
        for (int none : NO_ROWS) {
            Expect.unchanged(CyclicBoundsTest::filled, INDEX, "convolve row " + none, yard -> yard.convolve(0, none, 1, 3));
            Expect.unchanged(CyclicBoundsTest::filled, INDEX, "convolve with row " + none, yard -> yard.convolve(0, 0, none, 3));
            Expect.unchanged(CyclicBoundsTest::filled, INDEX, "convolve to row " + none, yard -> yard.convolve(0, 0, 1, none));
            Expect.unchanged(CyclicBoundsTest::filled, INDEX, "convolve row " + none + " alone", yard -> yard.convolve(0, none, none, none));
            Expect.unchanged(CyclicBoundsTest::filled, INDEX, "convolved of row " + none, yard -> yard.convolved(0, none, 1, 0));
            Expect.unchanged(CyclicBoundsTest::filled, INDEX, "convolved with row " + none, yard -> yard.convolved(0, 0, none, 0));
        }
    }

    /** "For which the remainder of j + i by n is k": the last j + i that is below n, n - 1. */
    private static void nothingGoesRound() {
        convolution("0 0 1", 7, 3, single(1, 1, 3), single(1, 1, 3));
        convolution("0 0 2", 7, 3, single(2, 1, 3), single(0, 2, 1));
        convolution("0 0 0 3", 5, 4, single(0, 3, 4), single(3, 1, 4));
        convolution("4 6 3", 7, 3, new int[] {1, 2}, new int[] {4, -9});
    }

    /** "For which the remainder of j + i by n is k": n itself goes round to 0, and the last, 2n - 2, to n - 2. */
    private static void sumsGoRound() {
        convolution("1 0 0", 7, 3, single(2, 1, 3), single(1, 1, 3));
        convolution("1 0 0", 7, 3, single(1, 1, 3), single(2, 1, 3));
        convolution("0 1 0", 7, 3, single(2, 1, 3), single(2, 1, 3));
        convolution("0 0 1 0", 5, 4, single(3, 1, 4), single(3, 1, 4));
        convolution("1 0 3", 7, 3, new int[] {1, 2, 3}, new int[] {4, -1});
        convolution("3 6 6", 7, 3, new int[] {1, 2, 3}, new int[] {3, 1, 2});
    }

    /** "Going round", by the lengths 1, 2 and 64. */
    private static void shortestAndLongestGoRound() {
        convolution("6", 7, 1, new int[] {2}, new int[] {3});
        convolution("6", 7, 1, new int[] {-2}, new int[] {4});
        convolution("1 0", 3, 2, single(1, 1, 2), single(1, 1, 2));
        convolution("2 1", 3, 2, new int[] {1, 2}, new int[] {1, 2});
        convolution(text(single(62, 1, 64)), 193, 64, single(63, 1, 64), single(63, 1, 64));
        convolution(text(single(0, 9, 64)), 193, 64, single(63, 3, 64), single(1, 3, 2));
        convolution(text(single(63, 9, 64)), 193, 64, single(63, 3, 64), single(0, 3, 1));
        convolution(text(single(59, 1, 61)), 7321, 61, single(60, 1, 61), single(60, 1, 61));
    }

    /** "The remainder, from 0 to p - 1, by p", of products below 0, of p and of p - 1. */
    private static void remaindersAlone() {
        convolution("0", 7, 1, new int[] {7}, new int[] {1});
        convolution("0", 7, 1, new int[] {-7}, new int[] {5});
        convolution("6", 7, 1, new int[] {-1}, new int[] {1});
        convolution("1", 7, 1, new int[] {-1}, new int[] {-1});
        convolution("1", 7, 1, new int[] {6}, new int[] {6});
        convolution("0 0 0", 7, 3, new int[] {7, 14, -21}, new int[] {1, 2, 3});
        convolution("6 6 6", 7, 3, new int[] {-1, -1, -1}, new int[] {1});
    }

    /** "The sum of all products": of the largest and the least values, as many as a row can have. */
    private static void largestSums() {
        for (int[] plan : new int[][] {{193, 64}, {9601, 64}, {9829, 63}, {7321, 61}, {3, 2}, {9973, 12}}) {
            for (int[] values : new int[][] {{9999, 9999}, {9999, -9999}, {-9999, -9999}, {-1, -1}, {plan[0] - 1, plan[0] - 1}}) {
                int due = (int) Math.floorMod((long) plan[1] * values[0] * values[1], (long) plan[0]);
                convolution(text(flat(due, plan[1])), plan[0], plan[1], flat(values[0], plan[1]), flat(values[1], plan[1]));
            }
        }
    }

    /** "The target has n entries then", though a row is empty. */
    private static void emptyRows() {
        convolution("0 0 0", 7, 3, new int[] {}, new int[] {});
        convolution("0 0 0", 7, 3, new int[] {}, new int[] {1, 2, 3});
        convolution("0 0 0", 7, 3, new int[] {1, 2, 3}, new int[] {});
        convolution("0", 7, 1, new int[] {}, new int[] {5});
        convolution(text(flat(0, 64)), 193, 64, new int[] {}, flat(5, 64));
        ButterflyYard yard = filled();
        Expect.answer(3, "convolve an empty row with itself onto itself", () -> yard.convolve(0, 3, 3, 3));
        Expect.same("[1 2 3][4 -1][9 9 9 9][0 0 0]" + PLANS, Expect.state(yard), "the state then");
    }

    /** "All products of an entry j of the one with an entry i of the other": of those that they have, not of those they had. */
    private static void clearedEntriesCountAsNone() {
        ButterflyYard yard = filled();
        Expect.fill(yard, 0, 2);
        Expect.fill(yard, 2, 3);
        Expect.answer(6, "convolved entry 0 after clears", () -> yard.convolved(0, 0, 2, 0));
        Expect.answer(0, "convolved entry 1 after clears", () -> yard.convolved(0, 0, 2, 1));
        Expect.answer(3, "convolve after clears", () -> yard.convolve(0, 0, 2, 3));
        Expect.same("[2][4 -1][3][6 0 0]" + PLANS, Expect.state(yard), "the state after convolve after clears");
    }

    /** "Throws IllegalStateException if one of the two rows has more entries than the length of the plan": not if it has as many. */
    private static void rowsUpToThePlan() {
        for (int length : new int[] {0, 1, 2, 3}) {
            for (int other : new int[] {0, 1, 2, 3}) {
                int[] due = new int[3];
                for (int k = 0; k < 3; k++) {
                    for (int j = 0; j < length; j++) {
                        due[k] += (k - j + 3) % 3 < other ? 1 : 0;
                    }
                }
                convolution(text(due), 7, 3, flat(1, length), flat(1, other));
            }
        }
    }

    /** "Throws IllegalStateException if one of the two rows has more entries than the length of the plan": one more, and 64. */
    private static void noRowLongerThanThePlan() {
        for (int[] lengths : new int[][] {{4, 3}, {3, 4}, {4, 4}, {4, 0}, {0, 4}, {64, 1}, {1, 64}, {64, 64}}) {
            String call = " of " + lengths[0] + " with " + lengths[1] + " by 3";
            Expect.Maker maker = () -> twoRows(7, 3, flat(1, lengths[0]), flat(2, lengths[1]));
            for (int target = 0; target < 3; target++) {
                int written = target;
                Expect.unchanged(maker, STATE, "convolve" + call, yard -> yard.convolve(0, 0, 1, written));
            }
            for (int entry = 0; entry < 3; entry++) {
                int asked = entry;
                Expect.unchanged(maker, STATE, "convolved" + call, yard -> yard.convolved(0, 0, 1, asked));
            }
        }
        Expect.Maker two = () -> twoRows(7, 1, flat(1, 1), flat(2, 2));
        Expect.unchanged(two, STATE, "convolve 1 with 2 by 1", yard -> yard.convolve(0, 0, 1, 2));
        Expect.unchanged(two, STATE, "convolve 2 with itself by 1", yard -> yard.convolve(0, 1, 1, 1));
        Expect.unchanged(two, STATE, "convolved 2 with 1 by 1", yard -> yard.convolved(0, 1, 0, 0));
        Expect.Maker full = () -> twoRows(127, 63, flat(1, 64), flat(2, 63));
        Expect.unchanged(full, STATE, "convolve 64 with 63 by 63", yard -> yard.convolve(0, 0, 1, 2));
        Expect.unchanged(full, STATE, "convolved 63 with 64 by 63", yard -> yard.convolved(0, 1, 0, 62));
    }

    /** "The target has n entries then", whatever it had: a target's own length is no reason to throw. */
    private static void targetsOfAnyLength() {
        for (int length : new int[] {0, 2, 3, 4, 64}) {
            ButterflyYard yard = twoRows(7, 3, flat(1, 3), single(1, 5, 2));
            Expect.fill(yard, 2, flat(8, length));
            Expect.answer(3, "convolve onto a row of " + length, () -> yard.convolve(0, 0, 1, 2));
            Expect.same("[1 1 1][0 5][5 5 5][]1(2 27)", Expect.state(yard), "the state after convolve onto a row of " + length);
        }
    }

    /** "The two rows stay as they are": neither gets longer, nor are its entries made remainders. */
    private static void targetBesides() {
        ButterflyYard yard = twoRows(7, 3, new int[] {-8, 9999}, new int[] {-1});
        Expect.answer(3, "convolve short rows", () -> yard.convolve(0, 0, 1, 3));
        Expect.same("[-8 9999][-1][][1 4 0]1(2 27)", Expect.state(yard), "the state after convolve of short rows");
    }

    /** "But for one that is the target": the first of them. */
    private static void targetIsTheOne() {
        ButterflyYard yard = filled();
        Expect.answer(3, "convolve onto the one", () -> yard.convolve(0, 0, 1, 0));
        Expect.same("[1 0 3][4 -1][9 9 9 9][]" + PLANS, Expect.state(yard), "the state after convolve onto the one");
    }

    /** "But for one that is the target": the second of them. */
    private static void targetIsTheOther() {
        ButterflyYard yard = filled();
        Expect.answer(3, "convolve onto the other", () -> yard.convolve(0, 0, 1, 1));
        Expect.same("[1 2 3][1 0 3][9 9 9 9][]" + PLANS, Expect.state(yard), "the state after convolve onto the other");
    }

    /** "other: 0 to 3, which may be the same", and "target: 0 to 3, which may be one of them". */
    private static void rowWithItself() {
        ButterflyYard yard = filled();
        Expect.answer(6, "convolved of a row with itself", () -> yard.convolved(0, 0, 0, 0));
        Expect.answer(3, "convolve a row with itself", () -> yard.convolve(0, 0, 0, 3));
        Expect.same("[1 2 3][4 -1][9 9 9 9][6 6 3]" + PLANS, Expect.state(yard), "the state after a row with itself");
        Expect.answer(3, "convolve a row with itself onto itself", () -> yard.convolve(0, 1, 1, 1));
        Expect.same("[1 2 3][2 6 1][9 9 9 9][6 6 3]" + PLANS, Expect.state(yard), "the state after a row with itself onto itself");
        Expect.answer(4, "convolve a row of 4 with itself onto itself", () -> yard.convolve(1, 2, 2, 2));
        Expect.same("[1 2 3][2 6 1][4 4 4 4][6 6 3]" + PLANS, Expect.state(yard), "the state after 4 by 4");
    }

    /** "If several apply, the one that the throws clause names first is thrown", of convolve. */
    private static void convolveFirstNamed() {
        for (int none : new int[] {-1, 4, Integer.MIN_VALUE, Integer.MAX_VALUE}) {
            Expect.unchanged(CyclicBoundsTest::filled, INDEX, "convolve: no plan, too long", yard -> yard.convolve(none, 2, 2, 3));
            Expect.unchanged(CyclicBoundsTest::filled, INDEX, "convolve: no one, other too long", yard -> yard.convolve(0, none, 2, 3));
            Expect.unchanged(CyclicBoundsTest::filled, INDEX, "convolve: no other, one too long", yard -> yard.convolve(0, 2, none, 3));
            Expect.unchanged(CyclicBoundsTest::filled, INDEX, "convolve: no target, one too long", yard -> yard.convolve(0, 2, 1, none));
            Expect.unchanged(CyclicBoundsTest::filled, INDEX, "convolve: no target, other too long", yard -> yard.convolve(0, 0, 2, none));
        }
    }

    /** Convolved: "entry: 0 to the length of the plan less 1" */
    private static void firstAndLastEntry() {
        ButterflyYard yard = filled();
        Expect.answer(1, "convolved entry 0", () -> yard.convolved(0, 0, 1, 0));
        Expect.answer(3, "convolved entry 2, beyond the other's entries", () -> yard.convolved(0, 0, 1, 2));
        Expect.answer(0, "convolved entry 3 of rows of 2", () -> yard.convolved(1, 1, 1, 3));
        Expect.answer(4, "convolved entry 3 of rows of 4", () -> yard.convolved(1, 2, 2, 3));
        Expect.answer(0, "convolved entry 0 of no entries by 1", () -> yard.convolved(2, 3, 3, 0));
        ButterflyYard full = twoRows(193, 64, flat(1, 64), flat(3, 64));
        Expect.answer(192, "convolved entry 0 of full rows", () -> full.convolved(0, 0, 1, 0));
        Expect.answer(192, "convolved entry 63 of full rows", () -> full.convolved(0, 0, 1, 63));
        Expect.thrown(INDEX, "convolved entry 64 of full rows", () -> full.convolved(0, 0, 1, 64));
    }

    /** "Throws IndexOutOfBoundsException if there is no such plan, row or entry": no such entry. */
    private static void noEntryBesides() {
        for (int none : new int[] {-1, 3, 4, 64, -3, Integer.MIN_VALUE, Integer.MAX_VALUE}) {
            Expect.unchanged(CyclicBoundsTest::filled, INDEX, "convolved entry " + none + " of 3", yard -> yard.convolved(0, 0, 1, none));
            Expect.unchanged(CyclicBoundsTest::filled, INDEX, "convolved entry " + none + ", a row with itself", yard -> yard.convolved(0, 1, 1, none));
        }
        Expect.unchanged(CyclicBoundsTest::filled, INDEX, "convolved entry 4 of 4", yard -> yard.convolved(1, 2, 2, 4));
        Expect.unchanged(CyclicBoundsTest::filled, INDEX, "convolved entry 1 of 1", yard -> yard.convolved(2, 3, 3, 1));
    }

    /** "If several apply, the one that the throws clause names first is thrown", of convolved. */
    private static void convolvedFirstNamed() {
        for (int none : new int[] {-1, 4, Integer.MIN_VALUE, Integer.MAX_VALUE}) {
            Expect.unchanged(CyclicBoundsTest::filled, INDEX, "convolved: no plan, too long", yard -> yard.convolved(none, 2, 2, 0));
            Expect.unchanged(CyclicBoundsTest::filled, INDEX, "convolved: no one, too long", yard -> yard.convolved(0, none, 2, 0));
            Expect.unchanged(CyclicBoundsTest::filled, INDEX, "convolved: no other, too long", yard -> yard.convolved(0, 2, none, 0));
            Expect.unchanged(CyclicBoundsTest::filled, INDEX, "convolved: no entry, one too long", yard -> yard.convolved(0, 2, 1, none));
            Expect.unchanged(CyclicBoundsTest::filled, INDEX, "convolved: no entry, other too long", yard -> yard.convolved(0, 1, 2, none));
        }
        Expect.unchanged(CyclicBoundsTest::filled, INDEX, "convolved: entry 3, both too long", yard -> yard.convolved(0, 2, 2, 3));
        Expect.unchanged(CyclicBoundsTest::filled, STATE, "convolved: entry 2, both too long", yard -> yard.convolved(0, 2, 2, 2));
    }

    /** Convolved "by the sum alone; nothing is changed." */
    private static void convolvedChangesNothing() {
        ButterflyYard yard = filled();
        String before = Expect.state(yard);
        for (int entry = 0; entry < 3; entry++) {
            yard.convolved(0, 0, 1, entry);
            yard.convolved(0, 3, 3, entry);
            yard.convolved(1, 2, 0, entry);
        }
        Expect.same(before, Expect.state(yard), "the state after convolved");
    }

    /** "Tells an entry that convolve() would make", by every plan's length from 1 to 64. */
    private static void convolvedAsConvolve() {
        for (int length = 1; length <= 64; length++) {
            int prime = length + 1;
            while (prime < 3 || !Reference.isPrime(prime)) {
                prime += length;
            }
            int[] one = new int[length];
            int[] other = new int[length];
            for (int number = 0; number < length; number++) {
                one[number] = 9999 - 317 * number;
                other[number] = 271 * number - 9999;
            }
            int[] due = new int[length];
            for (int k = 0; k < length; k++) {
                long total = 0;
                for (int j = 0; j < length; j++) {
                    total += (long) one[j] * other[Math.floorMod(k - j, length)];
                }
                due[k] = (int) Math.floorMod(total, (long) prime);
            }
            convolution(text(due), prime, length, one, other);
        }
    }
}
