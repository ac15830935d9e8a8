import java.math.BigInteger;
import java.util.ArrayList;
import java.util.List;

/** The document's words again, in the plainest way, to compare the class with. */
final class Reference {
    private final List<List<Integer>> rows = new ArrayList<>();
    private final List<int[]> plans = new ArrayList<>();

    Reference() {
        for (int row = 0; row < 4; row++) {
            rows.add(new ArrayList<>());
        }
    }

    static boolean isPrime(int number) {
        return number > 1 && BigInteger.valueOf(number).isProbablePrime(50);
    }

    static int leastPrimitiveRoot(int prime) {
        for (int candidate = 1; candidate < prime; candidate++) {
            long power = candidate;
            int order = 1;
            while (power != 1) {
                power = power * candidate % prime;
                order++;
            }
            if (order == prime - 1) {
                return candidate;
            }
        }
        throw new AssertionError("no primitive root of " + prime);
    }

    static int power(int base, int exponent, int prime) {
        return BigInteger.valueOf(base).modPow(BigInteger.valueOf(exponent), BigInteger.valueOf(prime)).intValue();
    }

    static int rootOf(int prime, int length) {
        return power(leastPrimitiveRoot(prime), (prime - 1) / length, prime);
    }

    static int waysOf(int length) {
        int primes = 0;
        for (int number = 2; number <= length; number++) {
            if (isPrime(number) && length % number == 0) {
                primes++;
            }
        }
        return 1 + 2 + (primes >= 2 ? 4 : 0) + (length > 2 && isPrime(length) ? 8 : 0) + 16;
    }

    int append(int row, int value) {
        index(row);
        argument(value >= -9999 && value <= 9999);
        state(rows.get(row).size() < 64);
        rows.get(row).add(value);
        return rows.get(row).size();
    }

    int clear(int row) {
        index(row);
        int before = rows.get(row).size();
        rows.set(row, new ArrayList<>());
        return before;
    }

    int copy(int source, int target) {
        index(source);
        index(target);
        rows.set(target, new ArrayList<>(rows.get(source)));
        return rows.get(target).size();
    }

    int length(int row) {
        index(row);
        return rows.get(row).size();
    }

    int at(int row, int entry) {
        index(row);
        below(entry, rows.get(row).size());
        return rows.get(row).get(entry);
    }

    int plan(int prime, int length) {
        argument(prime >= 3 && prime <= 9973 && isPrime(prime));
        argument(length >= 1 && length <= 64 && (prime - 1) % length == 0);
        state(plans.size() < 8);
        plans.add(new int[] {prime, length, rootOf(prime, length)});
        return plans.size() - 1;
    }

    int plans() {
        return plans.size();
    }

    int root(int plan) {
        below(plan, plans.size());
        return plans.get(plan)[2];
    }

    int ways(int plan) {
        below(plan, plans.size());
        return waysOf(plans.get(plan)[1]);
    }

    int forward(int plan, int row, int way) {
        return transform(plan, row, way, false);
    }

    int backward(int plan, int row, int way) {
        return transform(plan, row, way, true);
    }

    private int transform(int plan, int row, int way, boolean back) {
        below(plan, plans.size());
        index(row);
        argument(way >= 0 && way <= 4 && (ways(plan) >> way & 1) == 1);
        int length = plans.get(plan)[1];
        state(rows.get(row).size() <= length);
        List<Integer> made = new ArrayList<>();
        for (int k = 0; k < length; k++) {
            made.add(entry(plan, row, k, back));
        }
        rows.set(row, made);
        return made.get(0);
    }

    private int entry(int plan, int row, int k, boolean back) {
        int prime = plans.get(plan)[0];
        int length = plans.get(plan)[1];
        int root = plans.get(plan)[2];
        long base = back ? power(root, prime - 2, prime) : root;
        long step = power((int) base, k, prime);
        long power = 1;
        long total = 0;
        for (int j = 0; j < rows.get(row).size(); j++) {
            total = Math.floorMod(total + rows.get(row).get(j) * power, (long) prime);
            power = power * step % prime;
        }
        return (int) (back ? total * power(length, prime - 2, prime) % prime : total);
    }

    int sum(int plan, int row, int entry) {
        below(plan, plans.size());
        index(row);
        below(entry, plans.get(plan)[1]);
        state(rows.get(row).size() <= plans.get(plan)[1]);
        return entry(plan, row, entry, false);
    }

    int convolve(int plan, int one, int other, int target) {
        below(plan, plans.size());
        index(one);
        index(other);
        index(target);
        int length = plans.get(plan)[1];
        state(rows.get(one).size() <= length && rows.get(other).size() <= length);
        List<Integer> made = new ArrayList<>();
        for (int k = 0; k < length; k++) {
            made.add(round(plan, one, other, k));
        }
        rows.set(target, made);
        return length;
    }

    int convolved(int plan, int one, int other, int entry) {
        below(plan, plans.size());
        index(one);
        index(other);
        int length = plans.get(plan)[1];
        below(entry, length);
        state(rows.get(one).size() <= length && rows.get(other).size() <= length);
        return round(plan, one, other, entry);
    }

    private int round(int plan, int one, int other, int k) {
        BigInteger total = BigInteger.ZERO;
        for (int j = 0; j < rows.get(one).size(); j++) {
            for (int i = 0; i < rows.get(other).size(); i++) {
                if ((j + i) % plans.get(plan)[1] == k) {
                    total = total.add(BigInteger.valueOf((long) rows.get(one).get(j) * rows.get(other).get(i)));
                }
            }
        }
        return total.mod(BigInteger.valueOf(plans.get(plan)[0])).intValue();
    }

    int filter(int signal, int kernel, int target, int block, boolean save) {
        index(signal);
        index(kernel);
        index(target);
        argument(block >= 1 && block <= 32 && within(signal, -99, 99) && within(kernel, -99, 99));
        List<Integer> heard = rows.get(signal);
        List<Integer> response = rows.get(kernel);
        int total = heard.size() + response.size() - 1;
        state(!heard.isEmpty() && !response.isEmpty() && total <= 64);
        int[] made = new int[total];
        for (int j = 0; j < heard.size(); j++) {
            for (int i = 0; i < response.size(); i++) {
                made[j + i] += heard.get(j) * response.get(i);
            }
        }
        List<Integer> row = new ArrayList<>();
        for (int entry : made) {
            row.add(entry);
        }
        rows.set(target, row);
        return total;
    }

    int multiply(int one, int other, int target) {
        index(one);
        index(other);
        index(target);
        argument(within(one, 0, 9) && within(other, 0, 9));
        int both = rows.get(one).size() + rows.get(other).size();
        state(!rows.get(one).isEmpty() && !rows.get(other).isEmpty() && both <= 64);
        String product = number(one).multiply(number(other)).toString();
        List<Integer> made = new ArrayList<>();
        for (int place = product.length() - 1; place >= 0; place--) {
            made.add(product.charAt(place) - '0');
        }
        rows.set(target, made);
        return made.size();
    }

    /** As Expect.row() tells a yard's. */
    String row(int row) {
        StringBuilder text = new StringBuilder();
        for (int entry : rows.get(row)) {
            text.append(text.length() == 0 ? "" : " ").append(entry);
        }
        return text.toString();
    }

    /** As Expect.state() tells a yard's. */
    String state() {
        StringBuilder text = new StringBuilder();
        for (int row = 0; row < 4; row++) {
            text.append('[').append(row(row)).append(']');
        }
        text.append(plans());
        for (int plan = 0; plan < plans(); plan++) {
            text.append('(').append(root(plan)).append(' ').append(ways(plan)).append(')');
        }
        return text.toString();
    }

    private BigInteger number(int row) {
        StringBuilder digits = new StringBuilder();
        for (int digit : rows.get(row)) {
            digits.append(digit);
        }
        return new BigInteger(digits.reverse().toString());
    }

    private boolean within(int row, int least, int largest) {
        return rows.get(row).stream().allMatch(entry -> entry >= least && entry <= largest);
    }

    private static void index(int row) {
        below(row, 4);
    }

    private static void below(int number, int bound) {
        if (number < 0 || number >= bound) {
            throw new IndexOutOfBoundsException();
        }
    }

    private static void argument(boolean right) {
        if (!right) {
            throw new IllegalArgumentException();
        }
    }

    private static void state(boolean right) {
        if (!right) {
            throw new IllegalStateException();
        }
    }
}
