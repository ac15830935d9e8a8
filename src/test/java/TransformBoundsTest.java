/** The boundary cases of promises 11 to 13: a method for each sentence of the document, which stands above it. */
public final class TransformBoundsTest {
    private static final Class<IndexOutOfBoundsException> INDEX = IndexOutOfBoundsException.class;
    private static final Class<IllegalArgumentException> ARGUMENT = IllegalArgumentException.class;
    private static final Class<IllegalStateException> STATE = IllegalStateException.class;
    private static final int[] NONE_OF_FOUR = {-1, 4, 5, -4, Integer.MIN_VALUE, Integer.MAX_VALUE};

    /** Plans of lengths with each set of ways, the shortest and the longest; the last two have no room for two entries. */
    private static final int[][] PLANS = {
        {193, 64}, {61, 60}, {7321, 61}, {127, 63}, {7, 6}, {7, 3}, {61, 30}, {37, 36}, {73, 9}, {5, 4}, {5, 2},
        {9973, 12}, {9973, 2}, {3, 2}, {9973, 1}, {3, 1}};

    public static void main(String[] args) {
        plansAndRowsThatThereAre();
        noPlanBesides();
        noRowBesides();
        noWayBesides();
        waysUnderTheirConditions();
        noRowLongerThanThePlan();
        rowsUpToThePlan();
        transformFirstNamed();
        missingEntriesCountAsNone();
        clearedEntriesCountAsNone();
        remaindersAlone();
        entriesBeyondThePrime();
        exponentsGoRound();
        backByTheInverses();
        thereAndBack();
        oneRowAlone();
        entryZeroReturned();
        sumOfFirstAndLast();
        noSumBesides();
        sumOfRowsUpToThePlan();
        sumFirstNamed();
        sumChangesNothing();
        Expect.finish();
    }

    private static ButterflyYard withPlan(int[] plan) {
        ButterflyYard yard = new ButterflyYard();
        yard.plan(plan[0], plan[1]);
        return yard;
    }

    private static boolean has(ButterflyYard yard, int plan, int way) {
        return (yard.ways(plan) >> way & 1) == 1;
    }

    private static int transform(ButterflyYard yard, boolean back, int plan, int row, int way) {
        return back ? yard.backward(plan, row, way) : yard.forward(plan, row, way);
    }

    private static String named(boolean back, int[] plan, int way) {
        return (back ? "backward" : "forward") + " by (" + plan[0] + ", " + plan[1] + ") in way " + way;
    }

    private static String repeated(int entry, int times) {
        return (entry + " ").repeat(times).trim();
    }

    /** Plan 0 has the length 6, plan 1 the length 3; row 0 is full, rows 1 to 3 have 7, 2 and no entries. */
    private static ButterflyYard filled() {
        ButterflyYard yard = withPlan(new int[] {7, 6});
        yard.plan(7, 3);
        Expect.full(yard, 0, -9);
        Expect.fill(yard, 1, 1, 2, 3, 4, 5, 6, 0);
        Expect.fill(yard, 2, -1, 9);
        return yard;
    }

    /** "plan: the number of a plan", "row: 0 to 3": the first and the last of both. */
    private static void plansAndRowsThatThereAre() {
        ButterflyYard yard = new ButterflyYard();
        for (int plan = 0; plan < 8; plan++) {
            yard.plan(5, plan == 7 ? 4 : plan == 0 ? 2 : 1);
        }
        Expect.fill(yard, 0, 1, 3);
        Expect.fill(yard, 3, 1, 3);
        Expect.answer(3, "sum by plan 0 of row 0", () -> yard.sum(0, 0, 1));
        Expect.answer(2, "sum by plan 7 of row 3", () -> yard.sum(7, 3, 1));
        Expect.answer(4, "forward by plan 0 of row 0", () -> yard.forward(0, 0, 0));
        Expect.answer(4, "forward by plan 7 of row 3", () -> yard.forward(7, 3, 0));
        Expect.same("4 3", Expect.row(yard, 0), "row 0 by plan 0");
        Expect.same("4 2 3 0", Expect.row(yard, 3), "row 3 by plan 7");
        Expect.answer(1, "backward by plan 0 of row 0", () -> yard.backward(0, 0, 0));
        Expect.answer(1, "backward by plan 7 of row 3", () -> yard.backward(7, 3, 0));
        Expect.same("1 3", Expect.row(yard, 0), "row 0 back");
        Expect.same("1 3 0 0", Expect.row(yard, 3), "row 3 back");
        Expect.thrown(INDEX, "forward by plan 8", () -> yard.forward(8, 0, 0));
    }

    /** "Throws IndexOutOfBoundsException if there is no such plan or row": no such plan. */
    private static void noPlanBesides() {
        for (int none : new int[] {-1, 2, 7, 8, -2, Integer.MIN_VALUE, Integer.MAX_VALUE}) {
            Expect.unchanged(TransformBoundsTest::filled, INDEX, "forward by plan " + none, yard -> yard.forward(none, 2, 0));
            Expect.unchanged(TransformBoundsTest::filled, INDEX, "backward by plan " + none, yard -> yard.backward(none, 2, 0));
            Expect.unchanged(TransformBoundsTest::filled, INDEX, "sum by plan " + none, yard -> yard.sum(none, 2, 0));
        }
    }

    /** "Throws IndexOutOfBoundsException if there is no such plan or row": no such row. */
    private static void noRowBesides() {
        for (int none : NONE_OF_FOUR) {
            Expect.unchanged(TransformBoundsTest::filled, INDEX, "forward of row " + none, yard -> yard.forward(0, none, 0));
            Expect.unchanged(TransformBoundsTest::filled, INDEX, "backward of row " + none, yard -> yard.backward(0, none, 0));
            Expect.unchanged(TransformBoundsTest::filled, INDEX, "sum of row " + none, yard -> yard.sum(0, none, 0));
        }
    }

    /** "way: 0 sums, .. 4 Bluestein": none below 0 and above 4, and none by a shift that goes round. */
    private static void noWayBesides() {
        for (int none : new int[] {-1, 5, 6, -4, 31, 32, 33, 34, 36, 64, -32, -31, Integer.MIN_VALUE, Integer.MAX_VALUE}) {
            Expect.unchanged(TransformBoundsTest::filled, ARGUMENT, "forward in way " + none, yard -> yard.forward(0, 2, none));
            Expect.unchanged(TransformBoundsTest::filled, ARGUMENT, "backward in way " + none, yard -> yard.backward(0, 2, none));
        }
    }

    /** "Throws IllegalArgumentException if the plan has no such way": it has those that ways() tells, and no others. */
    private static void waysUnderTheirConditions() {
        int[][] conditions = {
            {3, 1, 19}, {3, 2, 19}, {7, 3, 27}, {5, 4, 19}, {11, 5, 27}, {7, 6, 23}, {29, 7, 27}, {17, 8, 19}, {19, 9, 19},
            {11, 10, 23}, {61, 60, 23}, {7321, 61, 27}, {311, 62, 23}, {127, 63, 23}, {193, 64, 19}};
        for (int[] plan : conditions) {
            for (int way = 0; way < 5; way++) {
                for (boolean back : new boolean[] {false, true}) {
                    int asked = way;
                    if ((plan[2] >> way & 1) == 1) {
                        ButterflyYard yard = withPlan(plan);
                        Expect.answer(0, named(back, plan, way), () -> transform(yard, back, 0, 1, asked));
                    } else {
                        Expect.unchanged(() -> withPlan(plan), ARGUMENT, named(back, plan, way),
                            yard -> transform(yard, back, 0, 1, asked));
                    }
                }
            }
        }
    }

    private static ButterflyYard longRow(int[] plan, int length) {
        ButterflyYard yard = withPlan(plan);
        for (int number = 0; number < length; number++) {
            yard.append(2, number % 2 == 0 ? 9999 - number : number - 9999);
        }
        return yard;
    }

    /** "Throws IllegalStateException if the row has more entries than the length of the plan": one more, and 64. */
    private static void noRowLongerThanThePlan() {
        for (int[] plan : PLANS) {
            for (int length : new int[] {plan[1] + 1, 64}) {
                if (length <= plan[1] || length > 64) {
                    continue;
                }
                for (int way = 0; way < 5; way++) {
                    int asked = way;
                    if (!has(withPlan(plan), 0, way)) {
                        continue;
                    }
                    for (boolean back : new boolean[] {false, true}) {
                        Expect.unchanged(() -> longRow(plan, length), STATE, named(back, plan, way) + " of " + length,
                            yard -> transform(yard, back, 0, 2, asked));
                    }
                }
                Expect.unchanged(() -> longRow(plan, length), STATE, "sum of " + length + " by " + plan[1], yard -> yard.sum(0, 2, 0));
            }
        }
    }

    /** "To transform a row of at most n entries by a plan is to replace it by n entries": rows of none, 1, n - 1 and n. */
    private static void rowsUpToThePlan() {
        for (int[] plan : PLANS) {
            for (int length : new int[] {0, 1, plan[1] - 1, plan[1]}) {
                for (int way = 0; way < 5; way++) {
                    if (length >= 0 && has(withPlan(plan), 0, way)) {
                        compare(plan, length, way, false);
                        compare(plan, length, way, true);
                    }
                }
            }
        }
    }

    private static void compare(int[] plan, int length, int way, boolean back) {
        ButterflyYard yard = longRow(plan, length);
        Reference reference = new Reference();
        reference.plan(plan[0], plan[1]);
        for (int number = 0; number < length; number++) {
            reference.append(2, yard.at(2, number));
        }
        String call = named(back, plan, way) + " of " + length;
        int due = back ? reference.backward(0, 2, way) : reference.forward(0, 2, way);
        Expect.answer(due, call, () -> transform(yard, back, 0, 2, way));
        Expect.same(reference.row(2), Expect.row(yard, 2), "the row after " + call);
    }

    /** "If several apply, the one that the throws clause names first is thrown", of forward and backward. */
    private static void transformFirstNamed() {
        for (boolean back : new boolean[] {false, true}) {
            String call = back ? "backward" : "forward";
            for (int none : NONE_OF_FOUR) {
                Expect.unchanged(TransformBoundsTest::filled, INDEX, call + ": no plan, no row, no way",
                    yard -> transform(yard, back, none, none, 5));
                Expect.unchanged(TransformBoundsTest::filled, INDEX, call + ": no plan, no way",
                    yard -> transform(yard, back, none, 2, -1));
                Expect.unchanged(TransformBoundsTest::filled, INDEX, call + ": no plan, a full row",
                    yard -> transform(yard, back, none, 0, 0));
                Expect.unchanged(TransformBoundsTest::filled, INDEX, call + ": no plan, no way, a full row",
                    yard -> transform(yard, back, none, 0, 5));
                Expect.unchanged(TransformBoundsTest::filled, INDEX, call + ": no row, no way",
                    yard -> transform(yard, back, 0, none, 3));
            }
            for (int none : new int[] {-1, 3, 5}) {
                Expect.unchanged(TransformBoundsTest::filled, ARGUMENT, call + ": no way, too long a row",
                    yard -> transform(yard, back, 0, 1, none));
                Expect.unchanged(TransformBoundsTest::filled, ARGUMENT, call + ": no way, a full row",
                    yard -> transform(yard, back, 0, 0, none));
            }
            Expect.unchanged(TransformBoundsTest::filled, ARGUMENT, call + ": no Good and Thomas, too long a row",
                yard -> transform(yard, back, 1, 1, 2));
        }
    }

    /** "Entry j, 0 if the row had no such entry" */
    private static void missingEntriesCountAsNone() {
        for (int way : new int[] {0, 1, 2, 4}) {
            ButterflyYard yard = withPlan(new int[] {7, 6});
            Expect.answer(0, "forward of no entries", () -> yard.forward(0, 0, way));
            Expect.same("0 0 0 0 0 0", Expect.row(yard, 0), "no entries, forward in way " + way);
            Expect.answer(0, "backward of no entries", () -> yard.backward(0, 1, way));
            Expect.same("0 0 0 0 0 0", Expect.row(yard, 1), "no entries, backward in way " + way);
            Expect.fill(yard, 0, -2);
            Expect.answer(5, "forward of one entry", () -> yard.forward(0, 0, way));
            Expect.same("5 5 5 5 5 5", Expect.row(yard, 0), "one entry, forward in way " + way);
            Expect.fill(yard, 1, 0, 6, 0, 0, 0);
            Expect.answer(6, "forward of five entries", () -> yard.forward(0, 1, way));
            Expect.same("6 4 5 1 3 2", Expect.row(yard, 1), "five entries, forward in way " + way);
        }
    }

    /** "Entry j, 0 if the row had no such entry", though it had one before it was cleared or a shorter one came in its place. */
    private static void clearedEntriesCountAsNone() {
        for (int way : new int[] {0, 1, 2, 4}) {
            ButterflyYard yard = withPlan(new int[] {7, 6});
            Expect.full(yard, 0, 1);
            yard.copy(0, 1);
            Expect.fill(yard, 0, 3);
            Expect.answer(3, "forward after a full row was cleared", () -> yard.forward(0, 0, way));
            Expect.same("3 3 3 3 3 3", Expect.row(yard, 0), "a row cleared and transformed in way " + way);
            Expect.fill(yard, 2, 5);
            yard.copy(2, 1);
            Expect.answer(5, "sum after a shorter row was copied", () -> yard.sum(0, 1, 3));
            Expect.answer(2, "backward after a shorter row was copied", () -> yard.backward(0, 1, way));
            Expect.same("2 2 2 2 2 2", Expect.row(yard, 1), "a shorter row copied and transformed back in way " + way);
        }
    }

    /** "Entry k is the remainder, from 0 to p - 1, by p": of entries at and round the multiples of p. */
    private static void remaindersAlone() {
        int[][] remainders = {
            {0, 0}, {7, 0}, {-7, 0}, {14, 0}, {6, 6}, {-1, 6}, {-6, 1}, {8, 1}, {-8, 6}, {9996, 0}, {-9996, 0}, {9999, 3}, {-9999, 4}};
        for (int[] known : remainders) {
            for (int way : new int[] {0, 1, 4}) {
                ButterflyYard yard = withPlan(new int[] {7, 1});
                Expect.fill(yard, 0, known[0]);
                Expect.fill(yard, 1, known[0]);
                Expect.answer(known[1], "sum of " + known[0], () -> yard.sum(0, 0, 0));
                Expect.answer(known[1], "forward of " + known[0], () -> yard.forward(0, 0, way));
                Expect.answer(known[1], "backward of " + known[0], () -> yard.backward(0, 1, way));
                Expect.same("[" + known[1] + "][" + known[1] + "][][]1(1 19)", Expect.state(yard), "the remainders of " + known[0]);
            }
        }
    }

    /** "value: -9999 to 9999", transformed: the largest and least of them, as often as a row can have them. */
    private static void entriesBeyondThePrime() {
        for (int[] plan : new int[][] {{193, 64}, {9601, 64}, {7321, 61}, {61, 60}, {9901, 60}, {9829, 63}}) {
            for (int value : new int[] {9999, -9999, 1 - plan[0], -1}) {
                ButterflyYard made = withPlan(plan);
                for (int number = 0; number < plan[1]; number++) {
                    made.append(3, value);
                }
                long due = Math.floorMod((long) value * plan[1], (long) plan[0]);
                String flat = due + " " + repeated(0, plan[1] - 1);
                for (int way = 0; way < 5; way++) {
                    int asked = way;
                    if (has(made, 0, way)) {
                        made.copy(3, 2);
                        Expect.answer(due, named(false, plan, way) + " of " + value, () -> made.forward(0, 2, asked));
                        Expect.same(flat, Expect.row(made, 2), named(false, plan, way) + " of " + value);
                    }
                }
            }
        }
    }

    /** "w to the power of j * k", which goes round when j * k is n or more: the last entry alone gives the powers of the inverse. */
    private static void exponentsGoRound() {
        for (int[] plan : PLANS) {
            for (int way = 0; way < 5; way++) {
                if (!has(withPlan(plan), 0, way)) {
                    continue;
                }
                int asked = way;
                ButterflyYard yard = withPlan(plan);
                for (int number = 1; number < plan[1]; number++) {
                    yard.append(0, 0);
                }
                yard.append(0, 1);
                int inverse = Reference.power(yard.root(0), plan[0] - 2, plan[0]);
                StringBuilder due = new StringBuilder();
                for (int k = 0; k < plan[1]; k++) {
                    due.append(k == 0 ? "" : " ").append(Reference.power(inverse, k, plan[0]));
                }
                Expect.answer(1, named(false, plan, way), () -> yard.forward(0, 0, asked));
                Expect.same(due.toString(), Expect.row(yard, 0), "the last entry alone, " + named(false, plan, way));
            }
        }
    }

    /** "The inverse of w by p in place of w, and each of the sums times the inverse of n by p." */
    private static void backByTheInverses() {
        for (int[] plan : PLANS) {
            for (int way = 0; way < 5; way++) {
                if (!has(withPlan(plan), 0, way)) {
                    continue;
                }
                int asked = way;
                ButterflyYard yard = withPlan(plan);
                int inverse = Reference.power(plan[1], plan[0] - 2, plan[0]);
                Expect.fill(yard, 0, 1);
                Expect.answer(inverse, named(true, plan, way), () -> yard.backward(0, 0, asked));
                Expect.same(repeated(inverse, plan[1]), Expect.row(yard, 0), "one entry of 1, " + named(true, plan, way));
                for (int number = 0; number < plan[1]; number++) {
                    yard.append(1, 1);
                }
                Expect.answer(1, named(true, plan, way), () -> yard.backward(0, 1, asked));
                Expect.same(("1 " + repeated(0, plan[1] - 1)).trim(), Expect.row(yard, 1), "ones, " + named(true, plan, way));
            }
        }
    }

    /** "The ways of doing so lead to the same entries": there in one and back in another, whichever. */
    private static void thereAndBack() {
        for (int[] plan : PLANS) {
            for (int way = 0; way < 5; way++) {
                for (int other = 0; other < 5; other++) {
                    if (has(withPlan(plan), 0, way) && has(withPlan(plan), 0, other)) {
                        thereAndBack(plan, way, other);
                    }
                }
            }
        }
    }

    private static void thereAndBack(int[] plan, int way, int other) {
        ButterflyYard yard = withPlan(plan);
        StringBuilder due = new StringBuilder();
        for (int number = 0; number < plan[1]; number++) {
            int value = number * number % 200 - 99;
            yard.append(0, value);
            due.append(number == 0 ? "" : " ").append(Math.floorMod(value, plan[0]));
        }
        yard.forward(0, 0, way);
        yard.backward(0, 0, other);
        Expect.same(due.toString(), Expect.row(yard, 0), named(false, plan, way) + " and " + named(true, plan, other));
    }

    /** "Transforms a row": the other rows and the plans stay as they are. */
    private static void oneRowAlone() {
        for (int way : new int[] {0, 1, 2, 4}) {
            ButterflyYard yard = withPlan(new int[] {7, 6});
            for (int row = 0; row < 4; row++) {
                Expect.fill(yard, row, -row, 9);
            }
            yard.forward(0, 1, way);
            Expect.same("[0 9][1 5 3 4 0 2][-2 9][-3 9]1(3 23)", Expect.state(yard), "the state after forward in way " + way);
            yard.backward(0, 1, way);
            Expect.same("[0 9][6 2 0 0 0 0][-2 9][-3 9]1(3 23)", Expect.state(yard), "the state after backward in way " + way);
        }
    }

    /** "Returns entry 0 then": 0 and p - 1 too. */
    private static void entryZeroReturned() {
        for (int way : new int[] {0, 1, 3, 4}) {
            ButterflyYard yard = withPlan(new int[] {7, 3});
            Expect.fill(yard, 0, 1, 2, 4);
            Expect.answer(0, "forward to an entry 0 of 0", () -> yard.forward(0, 0, way));
            Expect.answer(0, "entry 0 after forward", () -> yard.at(0, 0));
            Expect.fill(yard, 1, 1, 2, 3);
            Expect.answer(6, "forward to an entry 0 of p - 1", () -> yard.forward(0, 1, way));
            Expect.answer(6, "entry 0 after forward", () -> yard.at(1, 0));
            Expect.fill(yard, 2, 1, 2, 1);
            Expect.answer(6, "backward to an entry 0 of p - 1", () -> yard.backward(0, 2, way));
            Expect.answer(6, "entry 0 after backward", () -> yard.at(2, 0));
            Expect.fill(yard, 3, 1, 2, 4);
            Expect.answer(0, "backward to an entry 0 of 0", () -> yard.backward(0, 3, way));
            Expect.answer(0, "entry 0 after backward", () -> yard.at(3, 0));
        }
    }

    /** "entry: 0 to the length of the plan less 1", beyond the row's own entries too. */
    private static void sumOfFirstAndLast() {
        ButterflyYard yard = filled();
        Expect.answer(1, "sum of entry 0 by the length 6", () -> yard.sum(0, 2, 0));
        Expect.answer(2, "sum of entry 5 by the length 6", () -> yard.sum(0, 2, 5));
        Expect.answer(0, "sum of entry 5 of no entries", () -> yard.sum(0, 3, 5));
        Expect.answer(1, "sum of entry 0 by the length 3", () -> yard.sum(1, 2, 0));
        Expect.answer(0, "sum of entry 2 by the length 3", () -> yard.sum(1, 2, 2));
        ButterflyYard full = withPlan(new int[] {193, 64});
        Expect.fill(full, 0, 0, 1);
        Expect.answer(1, "sum of entry 0 by the length 64", () -> full.sum(0, 0, 0));
        Expect.answer(Reference.power(125, 63, 193), "sum of entry 63 by the length 64", () -> full.sum(0, 0, 63));
        Expect.thrown(INDEX, "sum of entry 64 by the length 64", () -> full.sum(0, 0, 64));
        ButterflyYard one = withPlan(new int[] {3, 1});
        Expect.fill(one, 0, -1);
        Expect.answer(2, "sum of entry 0 by the length 1", () -> one.sum(0, 0, 0));
        Expect.thrown(INDEX, "sum of entry 1 by the length 1", () -> one.sum(0, 0, 1));
    }

    /** "Throws IndexOutOfBoundsException if there is no such plan, row or entry": no such entry. */
    private static void noSumBesides() {
        for (int none : new int[] {-1, 6, 7, 64, -6, Integer.MIN_VALUE, Integer.MAX_VALUE}) {
            Expect.unchanged(TransformBoundsTest::filled, INDEX, "sum of entry " + none + " of 6", yard -> yard.sum(0, 2, none));
            Expect.unchanged(TransformBoundsTest::filled, INDEX, "sum of entry " + none + " of no row's", yard -> yard.sum(0, 3, none));
        }
        Expect.unchanged(TransformBoundsTest::filled, INDEX, "sum of entry 3 of 3", yard -> yard.sum(1, 2, 3));
    }

    /** "Throws IllegalStateException if the row has more entries than the length of the plan", of sum: not if it has as many. */
    private static void sumOfRowsUpToThePlan() {
        ButterflyYard yard = filled();
        Expect.fill(yard, 1, 1, 2, 3, 4, 5, 6);
        Expect.answer(0, "sum of 6 by 6, entry 0", () -> yard.sum(0, 1, 0));
        Expect.answer(5, "sum of 6 by 6, entry 5", () -> yard.sum(0, 1, 5));
        Expect.thrown(STATE, "sum of 6 by 3", () -> yard.sum(1, 1, 0));
        for (int entry = 0; entry < 6; entry++) {
            int asked = entry;
            Expect.unchanged(TransformBoundsTest::filled, STATE, "sum of 7 by 6, entry " + entry, made -> made.sum(0, 1, asked));
            Expect.unchanged(TransformBoundsTest::filled, STATE, "sum of 64 by 6, entry " + entry, made -> made.sum(0, 0, asked));
        }
    }

    /** "If several apply, the one that the throws clause names first is thrown", of sum. */
    private static void sumFirstNamed() {
        for (int none : new int[] {-1, 6, Integer.MIN_VALUE, Integer.MAX_VALUE}) {
            Expect.unchanged(TransformBoundsTest::filled, INDEX, "sum: no entry " + none + ", too long a row", yard -> yard.sum(0, 1, none));
            Expect.unchanged(TransformBoundsTest::filled, INDEX, "sum: no plan, a full row", yard -> yard.sum(none, 0, 0));
            Expect.unchanged(TransformBoundsTest::filled, INDEX, "sum: no row, no entry", yard -> yard.sum(0, none, none));
            Expect.unchanged(TransformBoundsTest::filled, INDEX, "sum: no plan, row, entry", yard -> yard.sum(none, none, none));
        }
    }

    /** Sum "by the sum alone; nothing is changed." */
    private static void sumChangesNothing() {
        ButterflyYard yard = filled();
        String before = Expect.state(yard);
        for (int entry = 0; entry < 6; entry++) {
            yard.sum(0, 2, entry);
            yard.sum(0, 3, entry);
            yard.sum(1, 2, entry % 3);
        }
        Expect.same(before, Expect.state(yard), "the state after sums");
    }
}
