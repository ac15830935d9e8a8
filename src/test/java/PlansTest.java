/** Promises 7 to 10: plan, plans, root, ways. */
public final class PlansTest {
    private static final Class<IndexOutOfBoundsException> INDEX = IndexOutOfBoundsException.class;
    private static final Class<IllegalArgumentException> ARGUMENT = IllegalArgumentException.class;
    private static final Class<IllegalStateException> STATE = IllegalStateException.class;

    public static void main(String[] args) {
        numbersOfPlans();
        noNinthPlan();
        wrongPrimes();
        wrongLengths();
        wrongNumbers();
        knownRoots();
        everyPlan();
        Expect.finish();
    }

    private static void numbersOfPlans() {
        ButterflyYard yard = new ButterflyYard();
        for (int number = 0; number < 8; number++) {
            int due = number;
            Expect.answer(due, "plan number " + due, () -> yard.plan(7, 6));
            Expect.answer(due + 1, "plans", yard::plans);
        }
        Expect.answer(3, "root of the last plan", () -> yard.root(7));
    }

    private static ButterflyYard full() {
        ButterflyYard yard = new ButterflyYard();
        for (int number = 0; number < 8; number++) {
            yard.plan(7, 6);
        }
        return yard;
    }

    private static void noNinthPlan() {
        Expect.unchanged(PlansTest::full, STATE, "a ninth plan", yard -> yard.plan(7, 6));
        Expect.unchanged(PlansTest::full, ARGUMENT, "a ninth plan of no prime", yard -> yard.plan(8, 1));
        Expect.unchanged(PlansTest::full, ARGUMENT, "a ninth plan of no length", yard -> yard.plan(7, 4));
    }

    private static ButterflyYard twoPlans() {
        ButterflyYard yard = new ButterflyYard();
        yard.plan(7, 6);
        yard.plan(29, 7);
        return yard;
    }

    private static void wrongPrimes() {
        int[] none = {Integer.MIN_VALUE, -7, -1, 0, 1, 2, 4, 9, 15, 25, 91, 9409, 9971, 9972, 9974, 10007, 65537, Integer.MAX_VALUE};
        for (int prime : none) {
            Expect.unchanged(PlansTest::twoPlans, ARGUMENT, "plan(" + prime + ", 1)", yard -> yard.plan(prime, 1));
        }
        for (int number = -5; number < 10100; number++) {
            int asked = number;
            ButterflyYard fresh = new ButterflyYard();
            if (number >= 3 && number <= 9973 && Reference.isPrime(number)) {
                Expect.answer(0, "plan(" + number + ", 1)", () -> fresh.plan(asked, 1));
            } else {
                Expect.thrown(ARGUMENT, "plan(" + number + ", 1)", () -> fresh.plan(asked, 1));
            }
        }
    }

    private static void wrongLengths() {
        for (int length : new int[] {Integer.MIN_VALUE, -6, -1, 0, 4, 5, 7, 12, 64, Integer.MAX_VALUE}) {
            Expect.unchanged(PlansTest::twoPlans, ARGUMENT, "plan(7, " + length + ")", yard -> yard.plan(7, length));
        }
        Expect.unchanged(PlansTest::twoPlans, ARGUMENT, "plan(67, 66)", yard -> yard.plan(67, 66));
        Expect.unchanged(PlansTest::twoPlans, ARGUMENT, "plan(131, 65)", yard -> yard.plan(131, 65));
        ButterflyYard edges = twoPlans();
        Expect.answer(2, "plan(193, 64)", () -> edges.plan(193, 64));
        Expect.answer(3, "plan(3, 2)", () -> edges.plan(3, 2));
    }

    private static void wrongNumbers() {
        for (int plan : new int[] {-1, 2, 3, 7, 8, Integer.MIN_VALUE, Integer.MAX_VALUE}) {
            Expect.unchanged(PlansTest::twoPlans, INDEX, "root(" + plan + ")", yard -> yard.root(plan));
            Expect.unchanged(PlansTest::twoPlans, INDEX, "ways(" + plan + ")", yard -> yard.ways(plan));
        }
    }

    private static void knownRoots() {
        ButterflyYard yard = new ButterflyYard();
        yard.plan(9973, 12);
        yard.plan(3, 1);
        yard.plan(3, 2);
        yard.plan(41, 40);
        Expect.answer(1942, "root of (9973, 12)", () -> yard.root(0));
        Expect.answer(1, "root of (3, 1)", () -> yard.root(1));
        Expect.answer(2, "root of (3, 2)", () -> yard.root(2));
        Expect.answer(6, "root of (41, 40)", () -> yard.root(3));
        Expect.answer(23, "ways of (9973, 12)", () -> yard.ways(0));
        Expect.answer(19, "ways of (3, 1)", () -> yard.ways(1));
        Expect.answer(19, "ways of (3, 2)", () -> yard.ways(2));
    }

    private static void everyPlan() {
        for (int prime = 3; prime <= 9973; prime++) {
            if (!Reference.isPrime(prime)) {
                continue;
            }
            int primitive = Reference.leastPrimitiveRoot(prime);
            for (int length = 1; length <= 64; length++) {
                ButterflyYard yard = new ButterflyYard();
                String call = "(" + prime + ", " + length + ")";
                int divisor = length;
                int asked = prime;
                if ((prime - 1) % length != 0) {
                    Expect.thrown(ARGUMENT, "plan" + call, () -> yard.plan(asked, divisor));
                    continue;
                }
                Expect.answer(0, "plan" + call, () -> yard.plan(asked, divisor));
                Expect.answer(Reference.power(primitive, (prime - 1) / length, prime), "root of " + call, () -> yard.root(0));
                Expect.answer(Reference.waysOf(length), "ways of " + call, () -> yard.ways(0));
            }
        }
    }
}
