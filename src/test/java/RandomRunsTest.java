/** Long runs of calls, right and wrong ones, beside the reference; the numbers that choose them are always the same. */
public final class RandomRunsTest {
    private static final int RUNS = 3000;
    private static final int MOST_CALLS = 512;
    /** Of the runs that read all rows at last: 4 lengths and 256 entries are still to be asked, and a step may take two calls. */
    private static final int CALLS_BEFORE_READING = MOST_CALLS - 4 - 256 - 1;
    private static final int[][] PLANS = {
        {7, 6}, {29, 7}, {5, 1}, {97, 8}, {9973, 12}, {193, 64}, {61, 60}, {61, 30}, {43, 42}, {3, 2}, {13, 3},
        {9551, 50}, {7321, 61}, {47, 23}, {9871, 47}, {2, 1}, {9, 2}, {7, 4}, {67, 66}, {9281, 64}, {0, 0}, {11, -1}};

    private static long seed = 20260101;
    /** How many calls the object has had. */
    private static int calls = 0;

    public static void main(String[] args) {
        for (int run = 0; run < RUNS; run++) {
            calls = 0;
            if (run % 3 == 0) {
                runToTheLastCall("run " + run);
            } else {
                runAndRead("run " + run);
            }
        }
        Expect.finish();
    }

    private static int below(int bound) {
        seed = seed * 6364136223846793005L + 1442695040888963407L;
        return (int) ((seed >>> 33) % bound);
    }

    /** A row's or plan's number, now and then one that there is not. */
    private static int number(int bound) {
        return below(40) == 0 ? (below(2) == 0 ? -1 : bound) : below(bound);
    }

    private static void runAndRead(String run) {
        ButterflyYard yard = new ButterflyYard();
        Reference reference = new Reference();
        while (calls < CALLS_BEFORE_READING) {
            step(yard, reference, run + ", call " + (calls + 1) + ": ");
        }
        for (int row = 0; row < 4; row++) {
            int asked = row;
            compare(run + ": length of row " + row, () -> yard.length(asked), () -> reference.length(asked));
            for (int entry = 0; entry < reference.length(row); entry++) {
                int place = entry;
                compare(run + ": entry " + entry + " of row " + row,
                    () -> yard.at(asked, place), () -> reference.at(asked, place));
            }
        }
    }

    /** "An object is used for at most 512 calls after it has been made": the last of them is answered like the first. */
    private static void runToTheLastCall(String run) {
        ButterflyYard yard = new ButterflyYard();
        Reference reference = new Reference();
        while (calls < MOST_CALLS - 1) {
            step(yard, reference, run + ", call " + (calls + 1) + ": ");
        }
        while (calls < MOST_CALLS) {
            compare(run + ": plans at last", yard::plans, reference::plans);
        }
    }

    /** Counts the call too, and refuses one after the last of which the document speaks. */
    private static void compare(String call, Expect.Call made, Expect.Call due) {
        calls++;
        if (calls > MOST_CALLS) {
            throw new AssertionError(call + " is call " + calls);
        }
        Expect.same(Expect.outcome(due), Expect.outcome(made), call);
    }

    private static void step(ButterflyYard yard, Reference reference, String call) {
        int a = number(4);
        int b = number(4);
        int c = number(4);
        int plan = number(Math.max(1, reference.plans()));
        int kind = below(18);
        switch (kind) {
            case 0, 1, 2, 3, 4, 5 -> grow(yard, reference, call, a);
            case 6 -> {
                if (below(3) == 0) {
                    compare(call + "clear " + a, () -> yard.clear(a), () -> reference.clear(a));
                }
            }
            case 7 -> compare(call + "copy " + a + " " + b, () -> yard.copy(a, b), () -> reference.copy(a, b));
            case 8 -> {
                int entry = number(64);
                compare(call + "length " + a, () -> yard.length(a), () -> reference.length(a));
                compare(call + "at " + a + " " + entry, () -> yard.at(a, entry), () -> reference.at(a, entry));
            }
            case 9 -> {
                int[] asked = PLANS[below(PLANS.length)];
                compare(call + "plan " + asked[0] + " " + asked[1],
                    () -> yard.plan(asked[0], asked[1]), () -> reference.plan(asked[0], asked[1]));
                compare(call + "plans", yard::plans, reference::plans);
            }
            case 10 -> {
                compare(call + "root " + plan, () -> yard.root(plan), () -> reference.root(plan));
                compare(call + "ways " + plan, () -> yard.ways(plan), () -> reference.ways(plan));
            }
            case 11 -> {
                int way = number(5);
                compare(call + "forward " + plan + " " + a + " " + way,
                    () -> yard.forward(plan, a, way), () -> reference.forward(plan, a, way));
            }
            case 12 -> {
                int way = number(5);
                compare(call + "backward " + plan + " " + a + " " + way,
                    () -> yard.backward(plan, a, way), () -> reference.backward(plan, a, way));
            }
            case 13 -> {
                int entry = number(8);
                compare(call + "sum " + plan + " " + a + " " + entry,
                    () -> yard.sum(plan, a, entry), () -> reference.sum(plan, a, entry));
            }
            case 14 -> compare(call + "convolve " + plan + " " + a + " " + b + " " + c,
                () -> yard.convolve(plan, a, b, c), () -> reference.convolve(plan, a, b, c));
            case 15 -> {
                int entry = number(8);
                compare(call + "convolved " + plan + " " + a + " " + b + " " + entry,
                    () -> yard.convolved(plan, a, b, entry), () -> reference.convolved(plan, a, b, entry));
            }
            case 16 -> {
                int block = number(33);
                boolean save = below(2) == 0;
                compare(call + "filter " + a + " " + b + " " + c + " " + block + " " + save,
                    () -> yard.filter(a, b, c, block, save), () -> reference.filter(a, b, c, block, save));
            }
            default -> compare(call + "multiply " + a + " " + b + " " + c,
                () -> yard.multiply(a, b, c), () -> reference.multiply(a, b, c));
        }
    }

    /** Values of one kind a call, so that rows of digits and of samples come about. */
    private static void grow(ButterflyYard yard, Reference reference, String call, int row) {
        int kind = below(12);
        int value;
        if (kind < 8) {
            value = below(10);
        } else if (kind < 11) {
            value = below(199) - 99;
        } else {
            value = below(20201) - 10100;
        }
        compare(call + "append " + row + " " + value, () -> yard.append(row, value), () -> reference.append(row, value));
    }
}
