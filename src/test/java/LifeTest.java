/**
 * What the document says of an object's whole life, and no single promise of its calls: a method for each
 * sentence of "What it is" and "Terms" that calls one after another must keep; the sentence stands above it.
 */
public final class LifeTest {
    private static final Class<IndexOutOfBoundsException> INDEX = IndexOutOfBoundsException.class;
    private static final Class<IllegalArgumentException> ARGUMENT = IllegalArgumentException.class;
    private static final Class<IllegalStateException> STATE = IllegalStateException.class;
    private static final int MOST_CALLS = 512;

    /** Calls of every kind that the document lets through, each of which changes or reads what those before left. */
    private static final Expect.YardCall[] RIGHT = {
        yard -> yard.plan(7, 6), yard -> yard.append(0, 3), yard -> yard.append(0, -4), yard -> yard.append(0, 5),
        yard -> yard.append(1, 1), yard -> yard.append(1, 2), yard -> yard.plan(7, 3), yard -> yard.copy(0, 2),
        yard -> yard.sum(0, 2, 5), yard -> yard.filter(0, 1, 3, 2, true), yard -> yard.filter(0, 1, 3, 2, false),
        yard -> yard.convolved(1, 0, 1, 1), yard -> yard.convolve(1, 0, 1, 0), yard -> yard.forward(0, 0, 2),
        yard -> yard.multiply(0, 1, 2), yard -> yard.backward(0, 0, 4), yard -> yard.clear(3), yard -> yard.plans(),
        yard -> yard.forward(1, 1, 3), yard -> yard.root(1), yard -> yard.ways(0), yard -> yard.length(2),
        yard -> yard.at(2, 0)};

    /** Calls that are wrong in whatever state; they go as far as they can before they are refused. */
    private static final Expect.YardCall[] WRONG = {
        yard -> yard.append(0, 10000), yard -> yard.append(4, 1), yard -> yard.clear(-1), yard -> yard.copy(0, 4),
        yard -> yard.length(4), yard -> yard.at(0, 64), yard -> yard.plan(9, 2), yard -> yard.plan(7, 4),
        yard -> yard.root(8), yard -> yard.ways(-1), yard -> yard.forward(0, 0, 5), yard -> yard.backward(0, 0, 3),
        yard -> yard.sum(0, 0, 6), yard -> yard.convolve(0, 0, 1, 4), yard -> yard.convolved(0, 0, 1, 6),
        yard -> yard.filter(0, 1, 0, 33, true), yard -> yard.multiply(0, 1, -1)};

    public static void main(String[] args) {
        dearCallsToTheLast();
        refusedCallsToTheLast();
        plansAreKept();
        refusedCallsBetween();
        objectsInTurn();
        grownAfterATransform();
        fullAfterATransform();
        transformedByAnotherPlan();
        grownAfterAConvolution();
        filteredIsTransformed();
        filteredIsConvolved();
        fullAfterAFilter();
        transformedIsFiltered();
        transformedIsMultiplied();
        grownAfterAProduct();
        Expect.finish();
    }

    /** An object that counts its calls. */
    private static final class Life {
        private final ButterflyYard yard = new ButterflyYard();
        private int calls;

        void answer(long due, String call, Expect.YardCall made) {
            calls++;
            Expect.answer(due, "call " + calls + ", " + call, () -> made.answer(yard));
        }

        void thrown(Class<? extends RuntimeException> due, String call, Expect.YardCall made) {
            calls++;
            Expect.thrown(due, "call " + calls + ", " + call, () -> made.answer(yard));
        }

        void ended() {
            Expect.same(Integer.toString(MOST_CALLS), Integer.toString(calls), "how many calls were made");
        }
    }

    private static ButterflyYard withPlan(int prime, int length) {
        ButterflyYard yard = new ButterflyYard();
        yard.plan(prime, length);
        return yard;
    }

    /** "An object is used for at most 512 calls after it has been made": the last is a transform like those before. */
    private static void dearCallsToTheLast() {
        int[] ways = {0, 1, 3, 4};
        Life life = new Life();
        life.answer(0, "plan", yard -> yard.plan(7321, 61));
        long total = 0;
        for (int number = 0; number < 61; number++) {
            int value = 9999 - 311 * number;
            int due = number + 1;
            total += value;
            life.answer(due, "append", yard -> yard.append(3, value));
        }
        for (int round = 0; life.calls < MOST_CALLS; round++) {
            int way = ways[round % 4];
            int other = ways[round / 4 % 4];
            life.answer(Math.floorMod(total, 7321L), "forward in way " + way, yard -> yard.forward(0, 3, way));
            life.answer(9999 - 7321, "backward in way " + other, yard -> yard.backward(0, 3, other));
        }
        life.ended();
    }

    /** "An object is used for at most 512 calls", refused ones too: those after them are answered as if they had not been. */
    private static void refusedCallsToTheLast() {
        Life life = new Life();
        life.answer(0, "plan", yard -> yard.plan(7, 2));
        life.answer(1, "append", yard -> yard.append(0, -8));
        life.answer(2, "append", yard -> yard.append(0, 2));
        life.answer(3, "append", yard -> yard.append(0, 9));
        life.answer(1, "append", yard -> yard.append(2, 100));
        while (life.calls + 8 <= MOST_CALLS - 3) {
            life.thrown(INDEX, "append to no row", yard -> yard.append(4, 1));
            life.thrown(ARGUMENT, "append of no value", yard -> yard.append(0, 10000));
            life.thrown(ARGUMENT, "plan of no length", yard -> yard.plan(7, 5));
            life.thrown(STATE, "forward of too long a row", yard -> yard.forward(0, 0, 4));
            life.thrown(STATE, "convolve with too long a row", yard -> yard.convolve(0, 1, 0, 2));
            life.thrown(ARGUMENT, "filter of 100", yard -> yard.filter(0, 2, 0, 32, true));
            life.thrown(ARGUMENT, "multiply by 100", yard -> yard.multiply(2, 2, 0));
            life.thrown(INDEX, "at of no entry", yard -> yard.at(0, 3));
        }
        while (life.calls < MOST_CALLS - 3) {
            life.answer(1, "plans", ButterflyYard::plans);
        }
        life.answer(3, "length", yard -> yard.length(0));
        life.answer(9, "at", yard -> yard.at(0, 2));
        life.answer(5, "filter", yard -> yard.filter(0, 0, 1, 2, true));
        life.ended();
    }

    /** "Plans are made for a prime and a length, and kept", whatever the rows are filled with and emptied of. */
    private static void plansAreKept() {
        ButterflyYard yard = new ButterflyYard();
        for (Expect.YardCall call : RIGHT) {
            call.answer(yard);
        }
        for (int row = 0; row < 4; row++) {
            yard.clear(row);
        }
        Expect.same("[][][][]2(3 23)(2 27)", Expect.state(yard), "the plans when all rows are cleared");
    }

    /** "A call that throws an exception changes nothing": not what later calls answer, either. */
    private static void refusedCallsBetween() {
        ButterflyYard alone = new ButterflyYard();
        ButterflyYard disturbed = new ButterflyYard();
        for (int number = 0; number < RIGHT.length; number++) {
            Expect.YardCall right = RIGHT[number];
            for (int other = 0; other < WRONG.length; other++) {
                Expect.YardCall wrong = WRONG[other];
                String outcome = Expect.outcome(() -> wrong.answer(disturbed));
                Expect.same("throws", outcome.split(" ")[0], "wrong call " + other + " before right call " + number);
            }
            String due = Expect.outcome(() -> right.answer(alone));
            Expect.same("answers", due.startsWith("throws") ? due : "answers", "right call " + number);
            Expect.same(due, Expect.outcome(() -> right.answer(disturbed)), "right call " + number + " after wrong ones");
        }
        Expect.same(Expect.state(alone), Expect.state(disturbed), "the state after wrong calls between");
    }

    /** "Rows are filled, transformed through plans and convolved", an object's by its own calls alone. */
    private static void objectsInTurn() {
        ButterflyYard alone = new ButterflyYard();
        ButterflyYard early = new ButterflyYard();
        ButterflyYard late = new ButterflyYard();
        int behind = 5;
        for (int number = 0; number < RIGHT.length + behind; number++) {
            if (number < RIGHT.length) {
                Expect.YardCall call = RIGHT[number];
                long due = call.answer(alone);
                Expect.answer(due, "call " + number + " of the early object", () -> call.answer(early));
            }
            if (number >= behind) {
                RIGHT[number - behind].answer(late);
            }
        }
        Expect.same(Expect.state(alone), Expect.state(early), "the state of the early object");
        Expect.same(Expect.state(alone), Expect.state(late), "the state of the late object");
    }

    /** "To transform a row .. is to replace it by n entries": it has n for the next calls, and can grow. */
    private static void grownAfterATransform() {
        for (int way : new int[] {0, 1, 2, 4}) {
            ButterflyYard yard = withPlan(7, 6);
            Expect.fill(yard, 1, -2);
            yard.forward(0, 1, way);
            Expect.answer(6, "length after forward", () -> yard.length(1));
            Expect.thrown(INDEX, "at beyond the n entries", () -> yard.at(1, 6));
            Expect.answer(7, "append after forward", () -> yard.append(1, -9999));
            Expect.same("5 5 5 5 5 5 -9999", Expect.row(yard, 1), "a row that grew after forward");
            Expect.thrown(STATE, "backward of the 7 entries", () -> yard.backward(0, 1, way));
            Expect.answer(7, "clear after forward", () -> yard.clear(1));
        }
    }

    /** "To transform a row .. is to replace it by n entries", 64 of them: the row is full then. */
    private static void fullAfterATransform() {
        for (int way : new int[] {0, 1, 4}) {
            ButterflyYard yard = withPlan(193, 64);
            Expect.answer(0, "forward of no entries", () -> yard.forward(0, 0, way));
            Expect.thrown(STATE, "append to 64 entries of a transform", () -> yard.append(0, 1));
            Expect.answer(0, "backward of the full row", () -> yard.backward(0, 0, way));
            Expect.answer(64, "copy of the full row", () -> yard.copy(0, 3));
            Expect.thrown(STATE, "append to the copy", () -> yard.append(3, 1));
        }
    }

    /** "Transformed through plans": by a longer one next, and not by a shorter one. */
    private static void transformedByAnotherPlan() {
        ButterflyYard yard = withPlan(7, 3);
        yard.plan(5, 4);
        yard.plan(7, 2);
        Expect.fill(yard, 0, 1, 0, 2);
        // By the root 2: 1 + 2, 1 + 2 * 4, 1 + 2 * 16.
        Expect.answer(3, "forward by the length 3", () -> yard.forward(0, 0, 3));
        Expect.same("3 2 5", Expect.row(yard, 0), "the row by the length 3");
        Expect.thrown(STATE, "forward by the length 2", () -> yard.forward(2, 0, 0));
        // By the root 2: 3 + 2 + 5, 3 + 2 * 2 + 5 * 4, 3 + 2 * 4 + 5 * 16, 3 + 2 * 8 + 5 * 64.
        Expect.answer(0, "forward by the length 4", () -> yard.forward(1, 0, 1));
        Expect.same("0 2 1 4", Expect.row(yard, 0), "the row by the length 4");
        Expect.thrown(STATE, "backward by the length 3", () -> yard.backward(0, 0, 3));
    }

    /** "The target has n entries then": it can grow, and be convolved by a longer plan. */
    private static void grownAfterAConvolution() {
        ButterflyYard yard = withPlan(7, 3);
        yard.plan(5, 4);
        Expect.fill(yard, 0, 1, 2, 3);
        Expect.fill(yard, 1, 4, -1);
        yard.convolve(0, 0, 1, 2);
        Expect.answer(4, "append after convolve", () -> yard.append(2, -3));
        Expect.same("1 0 3 -3", Expect.row(yard, 2), "a row that grew after convolve");
        Expect.thrown(STATE, "convolve the 4 entries by the length 3", () -> yard.convolve(0, 2, 0, 2));
        Expect.answer(4, "convolve the 4 entries by the length 4", () -> yard.convolve(1, 2, 1, 2));
        Expect.same("2 4 2 0", Expect.row(yard, 2), "the row by the length 4");
    }

    /** The largest entry of row 2 is 10 * 9801, the least that of row 3; append would refuse them. */
    private static ButterflyYard filtered() {
        ButterflyYard yard = withPlan(9949, 12);
        yard.plan(61, 20);
        for (int number = 0; number < 10; number++) {
            yard.append(0, 99);
            yard.append(1, -99);
        }
        yard.filter(0, 0, 2, 3, false);
        yard.filter(0, 1, 3, 3, true);
        return yard;
    }

    /** "Each of at most 64 whole numbers": those that a filter makes are transformed, though none could be appended. */
    private static void filteredIsTransformed() {
        for (int way : new int[] {0, 1, 2, 4}) {
            ButterflyYard yard = filtered();
            Expect.answer(98010, "the largest entry", () -> yard.at(2, 9));
            Expect.answer(-98010, "the least entry", () -> yard.at(3, 9));
            Expect.thrown(STATE, "forward of 19 by 12", () -> yard.forward(0, 2, way));
            Expect.answer(Math.floorMod(990L * 990L, 61L), "sum of a filtered row", () -> yard.sum(1, 2, 0));
            Expect.answer(Math.floorMod(990L * 990L, 61L), "forward of a filtered row", () -> yard.forward(1, 2, way));
            Expect.answer(Math.floorMod(9801, 61), "backward of the transformed row", () -> yard.backward(1, 2, way));
            Expect.answer(Math.floorMod(-990L * 990L, 61L), "forward of a filtered row below 0", () -> yard.forward(1, 3, way));
            Expect.answer(Math.floorMod(-9801, 61), "backward of that row", () -> yard.backward(1, 3, way));
            Expect.answer(Math.floorMod(-98010, 61), "its least entry then", () -> yard.at(3, 9));
        }
    }

    /** "Each of at most 64 whole numbers": those that a filter makes are convolved by a plan, and not filtered again. */
    private static void filteredIsConvolved() {
        ButterflyYard yard = filtered();
        Expect.fill(yard, 0, 1);
        long due = Math.floorMod(-98010L * 98010L, 61L);
        Expect.answer(Math.floorMod(-98010, 61), "convolved of a filtered row with 1", () -> yard.convolved(1, 3, 0, 9));
        Expect.answer(20, "convolve a filtered row with 1", () -> yard.convolve(1, 0, 3, 1));
        Expect.answer(Math.floorMod(-98010, 61), "its entry then", () -> yard.at(1, 9));
        Expect.thrown(ARGUMENT, "filter of a filtered row", () -> yard.filter(2, 0, 1, 1, true));
        Expect.thrown(ARGUMENT, "filter by a filtered row", () -> yard.filter(0, 3, 1, 1, false));
        Expect.thrown(ARGUMENT, "multiply a filtered row", () -> yard.multiply(2, 0, 1));
        ButterflyYard one = withPlan(61, 1);
        for (int number = 0; number < 10; number++) {
            one.append(0, 99);
            one.append(1, -99);
        }
        one.filter(0, 0, 0, 1, true);
        Expect.thrown(STATE, "convolve 19 by 1", () -> one.convolve(0, 0, 1, 2));
        Expect.thrown(STATE, "convolved of 19 by 1", () -> one.convolved(0, 1, 0, 0));
        ButterflyYard square = filtered();
        long total = 0;
        for (int j = 0; j < 19; j++) {
            total -= (long) (j < 10 ? j + 1 : 19 - j) * (j < 10 ? j + 1 : 19 - j) * 9801L * 9801L;
        }
        long entry = Math.floorMod(total, 61L);
        Expect.answer(entry, "convolved of two filtered rows", () -> square.convolved(1, 2, 3, 18));
        Expect.answer(20, "convolve two filtered rows", () -> square.convolve(1, 2, 3, 3));
        Expect.answer(entry, "the entry then", () -> square.at(3, 18));
    }

    /** "The target has as many entries as both together, less 1", 64 of them: the row is full then. */
    private static void fullAfterAFilter() {
        for (boolean save : new boolean[] {false, true}) {
            ButterflyYard yard = new ButterflyYard();
            Expect.full(yard, 0, -32);
            Expect.fill(yard, 1, -1);
            Expect.answer(64, "filter of a full row", () -> yard.filter(0, 1, 1, 9, save));
            Expect.thrown(STATE, "append to 64 entries of a filter", () -> yard.append(1, 0));
            Expect.answer(-31, "the last of them", () -> yard.at(1, 63));
            Expect.fill(yard, 0, 1, 1);
            Expect.thrown(STATE, "filter of the full row by two", () -> yard.filter(1, 0, 0, 9, save));
            Expect.fill(yard, 0, 2);
            Expect.answer(64, "filter of the full row by one", () -> yard.filter(1, 0, 0, 9, save));
            Expect.answer(64, "its first entry", () -> yard.at(0, 0));
        }
    }

    /** "An entry of the signal or the kernel is not -99 to 99", though a transform made it: of p up to 97 all are. */
    private static void transformedIsFiltered() {
        for (boolean save : new boolean[] {false, true}) {
            ButterflyYard yard = withPlan(97, 2);
            yard.plan(101, 2);
            Expect.fill(yard, 0, -1);
            Expect.fill(yard, 1, -1);
            Expect.answer(96, "forward by 97", () -> yard.forward(0, 0, 1));
            Expect.answer(100, "forward by 101", () -> yard.forward(1, 1, 1));
            Expect.answer(3, "filter of 96 96", () -> yard.filter(0, 0, 2, 1, save));
            Expect.same("9216 18432 9216", Expect.row(yard, 2), "filter of 96 96");
            Expect.thrown(ARGUMENT, "filter of 100 100", () -> yard.filter(1, 0, 2, 1, save));
            Expect.thrown(ARGUMENT, "filter by 100 100", () -> yard.filter(0, 1, 2, 1, save));
        }
    }

    /** "An entry of one of the two is not 0 to 9", though a transform made it: of p up to 7 all are. */
    private static void transformedIsMultiplied() {
        ButterflyYard yard = withPlan(7, 2);
        yard.plan(11, 2);
        Expect.fill(yard, 0, -1);
        Expect.fill(yard, 1, -1);
        Expect.thrown(ARGUMENT, "multiply -1", () -> yard.multiply(0, 0, 3));
        Expect.answer(6, "forward by 7", () -> yard.forward(0, 0, 0));
        Expect.answer(10, "forward by 11", () -> yard.forward(1, 1, 0));
        Expect.answer(4, "66 by 66", () -> yard.multiply(0, 0, 2));
        Expect.same("6 5 3 4", Expect.row(yard, 2), "66 by 66");
        Expect.thrown(ARGUMENT, "multiply 10 10", () -> yard.multiply(0, 1, 2));
    }

    /** "The target has the digits of the product then": they are a number's again, and it can grow; what was ahead is gone. */
    private static void grownAfterAProduct() {
        ButterflyYard yard = new ButterflyYard();
        Expect.fill(yard, 0, 9, 9);
        Expect.fill(yard, 1, 8, 8, 8, 8, 8, 8);
        Expect.answer(4, "99 by 99", () -> yard.multiply(0, 0, 1));
        Expect.thrown(INDEX, "a digit that was there before", () -> yard.at(1, 4));
        Expect.answer(6, "9801 by 99", () -> yard.multiply(1, 0, 1));
        Expect.same("9 9 2 0 7 9", Expect.row(yard, 1), "99 to the power of 3");
        Expect.answer(7, "append after multiply", () -> yard.append(1, 1));
        Expect.answer(9, "1970299 by 99", () -> yard.multiply(1, 0, 1));
        Expect.same("1 0 6 9 5 0 5 9 1", Expect.row(yard, 1), "1970299 by 99");
        Expect.fill(yard, 2, 0);
        Expect.answer(1, "by 0", () -> yard.multiply(1, 2, 1));
        Expect.answer(2, "append after a product of 0", () -> yard.append(1, 5));
        Expect.answer(4, "50 by 99", () -> yard.multiply(1, 0, 1));
        Expect.same("0 5 9 4", Expect.row(yard, 1), "50 by 99");
    }
}
