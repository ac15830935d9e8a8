import java.util.function.ToLongFunction;

/**
 * Each call of the face with every mix of arguments at and just beyond their bounds, on objects in
 * some states, beside the reference: the answer or the exception that is first named, and the state then.
 */
public final class EveryCallTest {
    private static final int[] ROWS = {-1, 0, 1, 2, 3, 4};
    private static final int[] PLANS = {-1, 0, 1, 2, 6, 7, 8};
    private static final int[] ENTRIES = {-1, 0, 1, 2, 3, 5, 6, 7, 31, 32, 59, 60, 62, 63, 64};
    private static final int[] VALUES = {-10000, -9999, -1, 0, 1, 9999, 10000};
    private static final int[] WAYS = {-1, 0, 1, 2, 3, 4, 5, 32};
    private static final int[] BLOCKS = {-1, 0, 1, 2, 32, 33};
    private static final int[] PRIMES = {-7, 0, 1, 2, 3, 4, 7, 9, 61, 131, 193, 9972, 9973, 9974, 10007};
    private static final int[] LENGTHS = {-1, 0, 1, 2, 3, 4, 6, 12, 60, 63, 64, 65, 9972};

    /** The rows and plans that an object has before the call. */
    private record State(int[][] rows, int[][] plans) {
        ButterflyYard yard() {
            ButterflyYard made = new ButterflyYard();
            for (int row = 0; row < rows.length; row++) {
                for (int value : rows[row]) {
                    made.append(row, value);
                }
            }
            for (int[] plan : plans) {
                made.plan(plan[0], plan[1]);
            }
            return made;
        }

        Reference reference() {
            Reference made = new Reference();
            for (int row = 0; row < rows.length; row++) {
                for (int value : rows[row]) {
                    made.append(row, value);
                }
            }
            for (int[] plan : plans) {
                made.plan(plan[0], plan[1]);
            }
            return made;
        }
    }

    private static final State[] STATES = {
        new State(new int[][] {}, new int[][] {}),
        new State(new int[][] {{1, 2, 3}, {4, -1, 0, 0, 0, 0}, {-5}}, new int[][] {{7, 6}, {7, 3}}),
        new State(new int[][] {counted(64, 10, 0), counted(33, 10, 0), counted(32, 10, 0), {7}}, new int[][] {{193, 64}, {7, 1}}),
        new State(new int[][] {counted(61, 199, -99), counted(10, 199, -99), {-100}, {9999}},
            new int[][] {{61, 60}, {367, 61}, {5, 4}, {5, 1}, {193, 64}, {61, 5}, {61, 12}, {7, 6}}),
        new State(new int[][] {{9, 9, 9, 9}, {10, 1, 2}, {-1}, {99, -99, 100}}, new int[][] {{5, 4}, {7, 3}, {3, 1}})};

    public static void main(String[] args) {
        for (int number = 0; number < STATES.length; number++) {
            State state = STATES[number];
            String where = "state " + number + ": ";
            rowCalls(state, where);
            planCalls(state, where);
            transformCalls(state, where);
            cyclicCalls(state, where);
            linearCalls(state, where);
        }
        Expect.finish();
    }

    private static int[] counted(int length, int bound, int first) {
        int[] made = new int[length];
        for (int number = 0; number < length; number++) {
            made[number] = first + 7 * (number + 1) % bound;
        }
        return made;
    }

    private static void compare(State state, String call, Expect.YardCall made, ToLongFunction<Reference> due) {
        ButterflyYard yard = state.yard();
        Reference reference = state.reference();
        String outcome = Expect.outcome(() -> due.applyAsLong(reference));
        Expect.same(outcome, Expect.outcome(() -> made.answer(yard)), call);
        Expect.same(reference.state(), Expect.state(yard), "the state after " + call);
    }

    private static void rowCalls(State state, String where) {
        for (int a : ROWS) {
            compare(state, where + "clear " + a, yard -> yard.clear(a), due -> due.clear(a));
            compare(state, where + "length " + a, yard -> yard.length(a), due -> due.length(a));
            for (int b : ROWS) {
                compare(state, where + "copy " + a + " " + b, yard -> yard.copy(a, b), due -> due.copy(a, b));
            }
            for (int value : VALUES) {
                compare(state, where + "append " + a + " " + value, yard -> yard.append(a, value), due -> due.append(a, value));
            }
            for (int entry : ENTRIES) {
                compare(state, where + "at " + a + " " + entry, yard -> yard.at(a, entry), due -> due.at(a, entry));
            }
        }
    }

    private static void planCalls(State state, String where) {
        compare(state, where + "plans", ButterflyYard::plans, Reference::plans);
        for (int plan : PLANS) {
            compare(state, where + "root " + plan, yard -> yard.root(plan), due -> due.root(plan));
            compare(state, where + "ways " + plan, yard -> yard.ways(plan), due -> due.ways(plan));
        }
        for (int prime : PRIMES) {
            for (int length : LENGTHS) {
                compare(state, where + "plan " + prime + " " + length,
                    yard -> yard.plan(prime, length), due -> due.plan(prime, length));
            }
        }
    }

    private static void transformCalls(State state, String where) {
        for (int plan : PLANS) {
            for (int a : ROWS) {
                for (int way : WAYS) {
                    String with = " " + plan + " " + a + " " + way;
                    compare(state, where + "forward" + with, yard -> yard.forward(plan, a, way), due -> due.forward(plan, a, way));
                    compare(state, where + "backward" + with, yard -> yard.backward(plan, a, way), due -> due.backward(plan, a, way));
                }
                for (int entry : ENTRIES) {
                    compare(state, where + "sum " + plan + " " + a + " " + entry,
                        yard -> yard.sum(plan, a, entry), due -> due.sum(plan, a, entry));
                }
            }
        }
    }

    private static void cyclicCalls(State state, String where) {
        for (int plan : PLANS) {
            for (int a : ROWS) {
                for (int b : ROWS) {
                    String with = " " + plan + " " + a + " " + b + " ";
                    for (int c : ROWS) {
                        compare(state, where + "convolve" + with + c,
                            yard -> yard.convolve(plan, a, b, c), due -> due.convolve(plan, a, b, c));
                    }
                    for (int entry : ENTRIES) {
                        compare(state, where + "convolved" + with + entry,
                            yard -> yard.convolved(plan, a, b, entry), due -> due.convolved(plan, a, b, entry));
                    }
                }
            }
        }
    }

    private static void linearCalls(State state, String where) {
        for (int a : ROWS) {
            for (int b : ROWS) {
                for (int c : ROWS) {
                    String with = " " + a + " " + b + " " + c;
                    compare(state, where + "multiply" + with, yard -> yard.multiply(a, b, c), due -> due.multiply(a, b, c));
                    for (int block : BLOCKS) {
                        compare(state, where + "filter" + with + " " + block + " save",
                            yard -> yard.filter(a, b, c, block, true), due -> due.filter(a, b, c, block, true));
                        compare(state, where + "filter" + with + " " + block + " add",
                            yard -> yard.filter(a, b, c, block, false), due -> due.filter(a, b, c, block, false));
                    }
                }
            }
        }
    }
}
