/** The boundary cases of promises 7 to 10: a method for each sentence of the document, which stands above it. */
public final class PlanBoundsTest {
    private static final Class<IndexOutOfBoundsException> INDEX = IndexOutOfBoundsException.class;
    private static final Class<IllegalArgumentException> ARGUMENT = IllegalArgumentException.class;
    private static final Class<IllegalStateException> STATE = IllegalStateException.class;
    private static final int ALWAYS = 1 + 2 + 16;
    private static final int GOOD_AND_THOMAS = 4;
    private static final int RADER = 8;

    /** Each prime with its least primitive root, as tables of them have it; from 3 to 67 without a gap. */
    private static final int[][] PRIMITIVE_ROOTS = {
        {3, 2}, {5, 2}, {7, 3}, {11, 2}, {13, 2}, {17, 3}, {19, 2}, {23, 5}, {29, 2}, {31, 3}, {37, 2}, {41, 6},
        {43, 3}, {47, 5}, {53, 2}, {59, 2}, {61, 2}};

    public static void main(String[] args) {
        leastAndLargestPrime();
        noPrimeBeyond();
        primesAlone();
        leastAndLargestLength();
        noLengthBeyond();
        lengthsThatDivide();
        eightPlans();
        noNinthPlan();
        planFirstNamed();
        refusedPlansTakeNoNumber();
        plansFromNoneToEight();
        plansStay();
        noPlanBesides();
        rootFromOneToLast();
        leastPrimitiveRoots();
        waysOfLengths();
        Expect.finish();
    }

    private static ButterflyYard twoPlans() {
        ButterflyYard yard = new ButterflyYard();
        yard.plan(7, 6);
        yard.plan(29, 7);
        Expect.fill(yard, 1, 4, 5);
        return yard;
    }

    private static ButterflyYard allPlans() {
        ButterflyYard yard = new ButterflyYard();
        for (int[] made : new int[][] {{7, 6}, {29, 7}, {3, 1}, {3, 2}, {193, 64}, {9973, 12}, {61, 60}, {7, 6}}) {
            yard.plan(made[0], made[1]);
        }
        Expect.fill(yard, 1, 4, 5);
        return yard;
    }

    private static void taken(int prime, int length) {
        ButterflyYard yard = new ButterflyYard();
        Expect.answer(0, "plan(" + prime + ", " + length + ")", () -> yard.plan(prime, length));
        Expect.answer(1, "plans after plan(" + prime + ", " + length + ")", yard::plans);
    }

    private static void refused(int prime, int length) {
        String call = "plan(" + prime + ", " + length + ")";
        Expect.unchanged(ButterflyYard::new, ARGUMENT, call, yard -> yard.plan(prime, length));
        Expect.unchanged(PlanBoundsTest::twoPlans, ARGUMENT, call, yard -> yard.plan(prime, length));
    }

    /** "prime: a prime from 3 to 9973" */
    private static void leastAndLargestPrime() {
        for (int prime : new int[] {3, 5, 7, 9941, 9949, 9967, 9973}) {
            taken(prime, 1);
            taken(prime, 2);
        }
    }

    /** "Throws IllegalArgumentException if prime or length is none of these": primes below 3 and above 9973. */
    private static void noPrimeBeyond() {
        for (int none : new int[] {2, 10007, 10009, 12289, 65537, Integer.MAX_VALUE}) {
            refused(none, 1);
        }
        refused(2, 2);
        refused(10007, 2);
        refused(12289, 64);
    }

    /** "Throws IllegalArgumentException if prime or length is none of these": what is no prime. */
    private static void primesAlone() {
        for (int none : new int[] {Integer.MIN_VALUE, -9973, -7, -3, -2, -1, 0, 1, 4, 6, 8, 9, 15, 21, 25, 27, 35, 49, 77, 91,
            8633, 9409, 9701, 9797, 9801, 9969, 9970, 9971, 9972, 9974, 9975}) {
            refused(none, 1);
        }
        refused(9, 2);
        refused(65, 64);
        refused(1, 64);
    }

    /** "length: 1 to 64" */
    private static void leastAndLargestLength() {
        for (int prime : new int[] {193, 257, 449, 9601}) {
            taken(prime, 1);
            taken(prime, 64);
        }
        taken(127, 63);
    }

    /** "Throws IllegalArgumentException if prime or length is none of these": divisors below 1 and above 64. */
    private static void noLengthBeyond() {
        refused(131, 65);
        refused(521, 65);
        refused(67, 66);
        refused(257, 128);
        refused(257, 256);
        refused(9973, 9972);
        for (int none : new int[] {0, -1, -2, -3, -6, -64, Integer.MIN_VALUE, Integer.MAX_VALUE}) {
            refused(7, none);
            refused(193, none);
        }
    }

    /** "length: 1 to 64, which divides prime - 1", up to prime - 1 itself. */
    private static void lengthsThatDivide() {
        for (int length : new int[] {1, 2, 3, 4, 5, 6, 7, 8, 12, 64}) {
            if (length <= 3 || length == 6) {
                taken(7, length);
            } else {
                refused(7, length);
            }
        }
        taken(3, 2);
        refused(3, 3);
        refused(3, 4);
        taken(61, 60);
        refused(61, 61);
        refused(59, 57);
        taken(59, 58);
        refused(59, 59);
        refused(191, 64);
        refused(197, 64);
    }

    /** "Plans are numbered from 0 on", to 7. */
    private static void eightPlans() {
        ButterflyYard yard = new ButterflyYard();
        for (int number = 0; number < 8; number++) {
            int due = number;
            Expect.answer(due, "the number of plan " + due, () -> yard.plan(61, due % 6 + 1));
        }
        Expect.thrown(STATE, "the ninth plan", () -> yard.plan(61, 1));
    }

    /** "Throws IllegalStateException if there are 8 plans", for a plan that there is, too. */
    private static void noNinthPlan() {
        for (int[] asked : new int[][] {{7, 6}, {3, 1}, {9973, 12}, {193, 64}, {5, 4}}) {
            String call = "a ninth plan (" + asked[0] + ", " + asked[1] + ")";
            Expect.unchanged(PlanBoundsTest::allPlans, STATE, call, yard -> yard.plan(asked[0], asked[1]));
        }
    }

    /** "If several apply, the one that the throws clause names first is thrown", of plan. */
    private static void planFirstNamed() {
        for (int[] asked : new int[][] {{2, 1}, {9, 2}, {10007, 1}, {-7, 1}, {7, 0}, {7, 4}, {131, 65}, {7, -1}, {8, 3}}) {
            String call = "a ninth plan (" + asked[0] + ", " + asked[1] + ")";
            Expect.unchanged(PlanBoundsTest::allPlans, ARGUMENT, call, yard -> yard.plan(asked[0], asked[1]));
        }
    }

    /** "A call that throws an exception changes nothing", of plan: the next one has the next number. */
    private static void refusedPlansTakeNoNumber() {
        ButterflyYard yard = twoPlans();
        Expect.thrown(ARGUMENT, "plan(9, 2)", () -> yard.plan(9, 2));
        Expect.thrown(ARGUMENT, "plan(7, 4)", () -> yard.plan(7, 4));
        Expect.answer(2, "the plan after two refused ones", () -> yard.plan(5, 4));
        Expect.answer(3, "plans then", yard::plans);
        Expect.answer(2, "root of the plan after two refused ones", () -> yard.root(2));
    }

    /** "Returns how many plans there are." */
    private static void plansFromNoneToEight() {
        ButterflyYard yard = new ButterflyYard();
        for (int count = 0; count < 8; count++) {
            Expect.answer(count, "plans", yard::plans);
            yard.plan(3, 1);
        }
        Expect.answer(8, "plans when there are all", yard::plans);
        Expect.thrown(STATE, "a ninth plan", () -> yard.plan(3, 1));
        Expect.answer(8, "plans after a ninth was refused", yard::plans);
    }

    /** "Plans are made for a prime and a length, and kept", up to the eighth. */
    private static void plansStay() {
        ButterflyYard yard = allPlans();
        Expect.same("[][4 5][][]8(3 23)(16 27)(1 19)(2 19)(125 19)(1942 23)(2 23)(3 23)", Expect.state(yard), "all plans");
        Expect.answer(9, "sum by the first plan of all, of 4 + 5 * 1", () -> yard.sum(4, 1, 0));
        Expect.answer(2, "sum by the eighth plan, 9 by 7", () -> yard.sum(7, 1, 0));
    }

    /** "Throws IndexOutOfBoundsException if there is no such plan", of promises 9 and 10. */
    private static void noPlanBesides() {
        for (int none : new int[] {-1, 2, 3, 7, 8, -8, Integer.MIN_VALUE, Integer.MAX_VALUE}) {
            Expect.unchanged(PlanBoundsTest::twoPlans, INDEX, "root of plan " + none, yard -> yard.root(none));
            Expect.unchanged(PlanBoundsTest::twoPlans, INDEX, "ways of plan " + none, yard -> yard.ways(none));
        }
        for (int none : new int[] {-1, 8, 9, Integer.MIN_VALUE, Integer.MAX_VALUE}) {
            Expect.unchanged(PlanBoundsTest::allPlans, INDEX, "root of plan " + none + " of 8", yard -> yard.root(none));
            Expect.unchanged(PlanBoundsTest::allPlans, INDEX, "ways of plan " + none + " of 8", yard -> yard.ways(none));
        }
        ButterflyYard yard = allPlans();
        Expect.answer(3, "root of plan 0", () -> yard.root(0));
        Expect.answer(3, "root of plan 7", () -> yard.root(7));
        Expect.answer(23, "ways of plan 0", () -> yard.ways(0));
        Expect.answer(23, "ways of plan 7", () -> yard.ways(7));
    }

    /** "Returns the root, 1 to p - 1": 1 by the length 1, p - 1 by the length 2. */
    private static void rootFromOneToLast() {
        for (int prime : new int[] {3, 5, 7, 41, 9967, 9973}) {
            ButterflyYard yard = new ButterflyYard();
            yard.plan(prime, 1);
            yard.plan(prime, 2);
            Expect.answer(1, "root of (" + prime + ", 1)", () -> yard.root(0));
            Expect.answer(prime - 1, "root of (" + prime + ", 2)", () -> yard.root(1));
        }
    }

    /** "The power of the least primitive root of p with the exponent (p - 1) / n", which is 1 by the length p - 1. */
    private static void leastPrimitiveRoots() {
        for (int[] known : PRIMITIVE_ROOTS) {
            ButterflyYard yard = new ButterflyYard();
            yard.plan(known[0], known[0] - 1);
            Expect.answer(known[1], "root of (" + known[0] + ", " + (known[0] - 1) + ")", () -> yard.root(0));
        }
        // The least primitive roots of 71, 191, 409 and 9973 are 7, 19, 21 and 11.
        int[][] others = {{71, 35, 7, 2}, {191, 38, 19, 5}, {409, 51, 21, 8}, {9973, 36, 11, 277}};
        for (int[] known : others) {
            ButterflyYard yard = new ButterflyYard();
            yard.plan(known[0], known[1]);
            String call = "root of (" + known[0] + ", " + known[1] + ")";
            Expect.answer(Reference.power(known[2], known[3], known[0]), call, () -> yard.root(0));
        }
    }

    /** "A plan has a way only under its condition", at every length: those below are all primes and all their powers. */
    private static void waysOfLengths() {
        String primes = " 3 5 7 11 13 17 19 23 29 31 37 41 43 47 53 59 61 ";
        String powers = " 1 2 4 8 16 32 64 9 27 25 49 " + primes;
        for (int length = 1; length <= 64; length++) {
            int due = ALWAYS;
            if (!powers.contains(" " + length + " ")) {
                due += GOOD_AND_THOMAS;
            }
            if (primes.contains(" " + length + " ")) {
                due += RADER;
            }
            ButterflyYard yard = new ButterflyYard();
            yard.plan(primeFor(length), length);
            Expect.answer(due, "ways of the length " + length, () -> yard.ways(0));
        }
    }

    private static int primeFor(int length) {
        int prime = length + 1;
        while (prime < 3 || !Reference.isPrime(prime)) {
            prime += length;
        }
        return prime;
    }
}
