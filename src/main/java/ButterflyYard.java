import java.util.Arrays;

/**
 * Transforms of rows of whole numbers by a prime, in five ways, with cyclic and linear
 * convolutions and products of long numbers. The promises that it keeps are numbered in
 * ../shared/DOC.md.
 */
public final class ButterflyYard {
    private static final int ROWS = 4;
    private static final int MOST_ENTRIES = 64;
    private static final int LARGEST_VALUE = 9999;
    private static final int MOST_PLANS = 8;
    private static final int LEAST_PRIME = 3;
    private static final int LARGEST_PRIME = 9973;
    private static final int LONGEST_BLOCK = 32;
    private static final int LARGEST_SAMPLE = 99;
    private static final int LARGEST_DIGIT = 9;

    private static final int SUMS = 0;
    private static final int MIXED_RADICES = 1;
    private static final int GOOD_AND_THOMAS = 2;
    private static final int RADER = 3;
    private static final int BLUESTEIN = 4;

    private final Row[] rows = new Row[ROWS];
    private final Plan[] madePlans = new Plan[MOST_PLANS];
    private int planCount;

    private final Transformer transformer = new Transformer();
    private final Convolver convolver = new Convolver();
    private final int[] left = new int[MOST_ENTRIES];
    private final int[] right = new int[MOST_ENTRIES];

    public ButterflyYard() {
        for (int number = 0; number < ROWS; number++) {
            rows[number] = new Row();
        }
    }

    // ---- rows

    public int append(int row, int value) throws IndexOutOfBoundsException, IllegalArgumentException, IllegalStateException {
        Row grown = rowOf(row);
        if (value < -LARGEST_VALUE || value > LARGEST_VALUE) {
            throw new IllegalArgumentException("the value is out of range");
        }
        if (!grown.add(value)) {
            throw new IllegalStateException("the row is full");
        }
        return grown.count();
    }

    public int clear(int row) throws IndexOutOfBoundsException {
        Row emptied = rowOf(row);
        int before = emptied.count();
        emptied.empty();
        return before;
    }

    public int copy(int source, int target) throws IndexOutOfBoundsException {
        Row read = rowOf(source);
        Row written = rowOf(target);
        written.takeRow(read);
        return written.count();
    }

    public int length(int row) throws IndexOutOfBoundsException {
        return rowOf(row).count();
    }

    public int at(int row, int entry) throws IndexOutOfBoundsException {
        Row asked = rowOf(row);
        requireEntry(entry, asked.count());
        return asked.entry(entry);
    }

    // ---- plans

    public int plan(int prime, int length) throws IllegalArgumentException, IllegalStateException {
        if (prime < LEAST_PRIME || prime > LARGEST_PRIME || !Numbers.isPrime(prime)) {
            throw new IllegalArgumentException("no prime from 3 to 9973");
        }
        if (length < 1 || length > MOST_ENTRIES || (prime - 1) % length != 0) {
            throw new IllegalArgumentException("no length from 1 to 64 that divides the prime less 1");
        }
        if (planCount >= MOST_PLANS) {
            throw new IllegalStateException("there are 8 plans");
        }
        int number = planCount;
        madePlans[number] = new Plan(prime, length);
        planCount = number + 1;
        return number;
    }

    public int plans() {
        return planCount;
    }

    public int root(int plan) throws IndexOutOfBoundsException {
        return planOf(plan).power(1);
    }

    public int ways(int plan) throws IndexOutOfBoundsException {
        return planOf(plan).wayset();
    }

    // ---- transforms

    public int forward(int plan, int row, int way) throws IndexOutOfBoundsException, IllegalArgumentException, IllegalStateException {
        return transformRow(planOf(plan), rowOf(row), way, false);
    }

    public int backward(int plan, int row, int way) throws IndexOutOfBoundsException, IllegalArgumentException, IllegalStateException {
        return transformRow(planOf(plan), rowOf(row), way, true);
    }

    public int sum(int plan, int row, int entry) throws IndexOutOfBoundsException, IllegalStateException {
        Plan followed = planOf(plan);
        Row asked = rowOf(row);
        requireEntry(entry, followed.size());
        requireFit(followed, asked);
        asked.loadRemainders(followed, left);
        return Transformer.transformedEntry(followed, left, 1, entry);
    }

    // ---- convolutions

    public int convolve(int plan, int one, int other, int target) throws IndexOutOfBoundsException, IllegalStateException {
        Plan followed = planOf(plan);
        Row first = rowOf(one);
        Row second = rowOf(other);
        Row written = rowOf(target);
        loadPair(followed, first, second);
        transformer.byMixedRadices(followed, left, followed.size(), 1);
        transformer.byMixedRadices(followed, right, followed.size(), 1);
        for (int k = 0; k < followed.size(); k++) {
            left[k] = followed.remainder((long) left[k] * right[k]);
        }
        transformer.byMixedRadices(followed, left, followed.size(), followed.backTurn());
        followed.divideBySize(left);
        written.take(left, followed.size());
        return written.count();
    }

    public int convolved(int plan, int one, int other, int entry) throws IndexOutOfBoundsException, IllegalStateException {
        Plan followed = planOf(plan);
        Row first = rowOf(one);
        Row second = rowOf(other);
        requireEntry(entry, followed.size());
        loadPair(followed, first, second);
        return followed.remainder(Convolver.cyclicEntry(left, right, followed.size(), entry));
    }

    public int filter(int signal, int kernel, int target, int block, boolean save) throws IndexOutOfBoundsException, IllegalArgumentException, IllegalStateException {
        Row heard = rowOf(signal);
        Row response = rowOf(kernel);
        Row written = rowOf(target);
        if (block < 1 || block > LONGEST_BLOCK) {
            throw new IllegalArgumentException("the block is not 1 to 32");
        }
        requireEntriesWithin(heard, response, -LARGEST_SAMPLE, LARGEST_SAMPLE);
        int total = heard.count() + response.count() - 1;
        requireFilledWithin(heard, response, total);
        if (save) {
            convolver.overlapSave(heard, response, block);
        } else {
            convolver.overlapAdd(heard, response, block);
        }
        written.take(convolver.results(), total);
        return written.count();
    }

    public int multiply(int one, int other, int target) throws IndexOutOfBoundsException, IllegalArgumentException, IllegalStateException {
        Row first = rowOf(one);
        Row second = rowOf(other);
        Row written = rowOf(target);
        requireEntriesWithin(first, second, 0, LARGEST_DIGIT);
        requireFilledWithin(first, second, first.count() + second.count());
        int digits = convolver.product(first, second);
        written.take(convolver.results(), digits);
        return written.count();
    }

    // ---- what the calls share

    private Row rowOf(int number) throws IndexOutOfBoundsException {
        if (number < 0 || number >= ROWS) {
            throw new IndexOutOfBoundsException("there is no such row");
        }
        return rows[number];
    }

    private Plan planOf(int number) throws IndexOutOfBoundsException {
        Plan found = number < 0 || number >= planCount ? null : madePlans[number];
        if (found == null) {
            throw new IndexOutOfBoundsException("there is no such plan");
        }
        return found;
    }

    private static void requireEntry(int entry, int count) throws IndexOutOfBoundsException {
        if (entry < 0 || entry >= count) {
            throw new IndexOutOfBoundsException("there is no such entry");
        }
    }

    private static void requireFit(Plan followed, Row row) throws IllegalStateException {
        if (row.count() > followed.size()) {
            throw new IllegalStateException("the row is longer than the plan");
        }
    }

    private static void requireEntriesWithin(Row one, Row other, int least, int largest) throws IllegalArgumentException {
        if (!one.isWithin(least, largest) || !other.isWithin(least, largest)) {
            throw new IllegalArgumentException("an entry is out of range");
        }
    }

    private static void requireFilledWithin(Row one, Row other, int total) throws IllegalStateException {
        if (one.count() == 0 || other.count() == 0) {
            throw new IllegalStateException("a row is empty");
        }
        if (total > MOST_ENTRIES) {
            throw new IllegalStateException("the result could be longer than a row");
        }
    }

    private void loadPair(Plan followed, Row first, Row second) throws IllegalStateException {
        requireFit(followed, first);
        requireFit(followed, second);
        first.loadRemainders(followed, left);
        second.loadRemainders(followed, right);
    }

    private int transformRow(Plan followed, Row changed, int way, boolean back) throws IllegalArgumentException, IllegalStateException {
        if (!followed.hasWay(way)) {
            throw new IllegalArgumentException("the plan has no such way");
        }
        requireFit(followed, changed);
        changed.loadRemainders(followed, left);
        int turn = back ? followed.backTurn() : 1;
        switch (way) {
            case SUMS:
                transformer.bySums(followed, left, turn);
                break;
            case MIXED_RADICES:
                transformer.byMixedRadices(followed, left, followed.size(), turn);
                break;
            case GOOD_AND_THOMAS:
                transformer.byGoodAndThomas(followed, left, turn);
                break;
            case RADER:
                transformer.byRader(followed, left, turn);
                break;
            default:
                transformer.byBluestein(followed, left, turn);
                break;
        }
        if (back) {
            followed.divideBySize(left);
        }
        changed.take(left, followed.size());
        return changed.entry(0);
    }

    /** At most 64 whole numbers. */
    private static final class Row {
        private final int[] entries = new int[MOST_ENTRIES];
        private int count;

        int count() {
            return count;
        }

        /** Answers 0 where the row has no such entry, as transforms and convolutions read it. */
        int entry(int number) {
            return number < 0 || number >= count ? 0 : entries[number];
        }

        /** Answers whether there was room. */
        boolean add(int value) {
            if (count >= MOST_ENTRIES) {
                return false;
            }
            entries[count] = value;
            count++;
            return true;
        }

        void empty() {
            count = 0;
        }

        void take(int[] values, int size) {
            count = Math.min(size, MOST_ENTRIES);
            for (int number = 0; number < count; number++) {
                entries[number] = values[number];
            }
        }

        void takeRow(Row source) {
            take(source.entries, source.count);
        }

        boolean isWithin(int least, int largest) {
            for (int number = 0; number < count; number++) {
                if (entries[number] < least || entries[number] > largest) {
                    return false;
                }
            }
            return true;
        }

        void loadRemainders(Plan plan, int[] target) {
            for (int number = 0; number < plan.size(); number++) {
                target[number] = plan.remainder(entry(number));
            }
        }
    }

    /** A prime and a length, with the powers of the root. */
    private static final class Plan {
        private final int prime;
        private final int size;
        private final int inverseOfSize;
        private final int wayset;
        /** Rader's way goes through the entries by its powers. */
        private final int generator;
        private final int[] powers = new int[MOST_ENTRIES];

        Plan(int prime, int size) {
            this.prime = prime;
            this.size = size;
            int exponent = size < 1 ? 0 : (prime - 1) / size;
            int root = Numbers.power(Numbers.leastPrimitiveRoot(prime), exponent, prime);
            int power = 1;
            for (int number = 0; number < size && number < MOST_ENTRIES; number++) {
                powers[number] = power;
                power = Numbers.remainder((long) power * root, prime);
            }
            inverseOfSize = Numbers.power(size, prime - 2, prime);
            wayset = waysetOf(size);
            generator = hasWay(RADER) ? Numbers.leastPrimitiveRoot(size) : 1;
        }

        private static int waysetOf(int size) {
            int set = 1 << SUMS | 1 << MIXED_RADICES | 1 << BLUESTEIN;
            if (Numbers.leastPrimePart(size) < size) {
                set |= 1 << GOOD_AND_THOMAS;
            }
            if (size > 2 && Numbers.isPrime(size)) {
                set |= 1 << RADER;
            }
            return set;
        }

        int size() {
            return size;
        }

        int wayset() {
            return wayset;
        }

        boolean hasWay(int way) {
            return way >= SUMS && way <= BLUESTEIN && (wayset >> way & 1) == 1;
        }

        int generator() {
            return generator;
        }

        /** The exponent that turns the root into its inverse. */
        int backTurn() {
            return size - 1;
        }

        /** The root to the power of any exponent, below 0 too. */
        int power(int exponent) {
            return powers[Numbers.remainder(exponent, size)];
        }

        int remainder(long value) {
            return Numbers.remainder(value, prime);
        }

        void divideBySize(int[] entries) {
            for (int k = 0; k < size; k++) {
                entries[k] = remainder((long) entries[k] * inverseOfSize);
            }
        }
    }

    /**
     * The five ways. Each replaces entries, which are remainders by the plan's prime, by their
     * transform with the root to the power of the turn in place of the root.
     */
    private static final class Transformer {
        /** 64 is 2 to the power of 6, and no length has more prime factors. */
        private static final int MOST_FACTORS = 6;

        private final int[] made = new int[MOST_ENTRIES];
        private final int[] grid = new int[MOST_ENTRIES];
        private final int[] line = new int[MOST_ENTRIES];
        private final int[] seats = new int[MOST_ENTRIES];
        private final int[] chirps = new int[2 * MOST_ENTRIES];

        void bySums(Plan plan, int[] entries, int turn) {
            for (int k = 0; k < plan.size(); k++) {
                made[k] = transformedEntry(plan, entries, turn, k);
            }
            copyMade(entries, plan.size());
        }

        static int transformedEntry(Plan plan, int[] entries, int turn, int k) {
            long total = 0;
            for (int j = 0; j < plan.size(); j++) {
                total += (long) entries[j] * plan.power(turn * j * k);
            }
            return plan.remainder(total);
        }

        /** The size is a divisor of the plan's, and the root to the power of the turn has that order. */
        void byMixedRadices(Plan plan, int[] entries, int size, int turn) {
            int stride = 1;
            int parts = size;
            for (int step = 0; step < MOST_FACTORS && parts > 1; step++) {
                int radix = Numbers.leastFactor(parts);
                parts /= radix;
                pass(plan, entries, turn, stride, radix, parts);
                stride *= radix;
            }
        }

        /**
         * One radix of Stockham's order, which leaves the entries in their places after the last
         * pass without a reversal of digits; the twiddle is one with the butterfly's own power.
         */
        private void pass(Plan plan, int[] entries, int turn, int stride, int radix, int parts) {
            for (int part = 0; part < parts; part++) {
                for (int digit = 0; digit < radix; digit++) {
                    for (int low = 0; low < stride; low++) {
                        long total = 0;
                        for (int high = 0; high < radix; high++) {
                            int from = part + parts * high;
                            total += (long) entries[low + stride * from] * plan.power(turn * stride * digit * from);
                        }
                        made[low + stride * (radix * part + digit)] = plan.remainder(total);
                    }
                }
            }
            copyMade(entries, stride * radix * parts);
        }

        /** Two coprime lengths make a grid without twiddles: Good's indices going in, the remainders' going out. */
        void byGoodAndThomas(Plan plan, int[] entries, int turn) {
            int size = plan.size();
            int height = Numbers.leastPrimePart(size);
            int width = height < 1 ? 0 : size / height;
            for (int down = 0; down < height; down++) {
                for (int across = 0; across < width; across++) {
                    line[across] = entries[Numbers.remainder(width * down + height * across, size)];
                }
                byMixedRadices(plan, line, width, turn * height);
                for (int across = 0; across < width; across++) {
                    grid[down * width + across] = line[across];
                }
            }
            for (int across = 0; across < width; across++) {
                for (int down = 0; down < height; down++) {
                    line[down] = grid[down * width + across];
                }
                byMixedRadices(plan, line, height, turn * width);
                for (int down = 0; down < height; down++) {
                    grid[down * width + across] = line[down];
                }
            }
            for (int k = 0; k < size; k++) {
                entries[k] = grid[Numbers.remainder(k, height) * width + Numbers.remainder(k, width)];
            }
        }

        /**
         * By the powers of a primitive root of the length, all entries but entry 0 are a cyclic
         * convolution. It is done by sums: of at most 60 entries that costs less than three
         * transforms by a helping prime would.
         */
        void byRader(Plan plan, int[] entries, int turn) {
            int size = plan.size();
            int rounds = size - 1;
            fillSeats(plan, rounds);
            long total = entries[0];
            for (int m = 0; m < rounds; m++) {
                line[m] = entries[seats[m]];
                chirps[m] = plan.power(turn * seats[opposite(m, rounds)]);
                total += line[m];
            }
            made[0] = plan.remainder(total);
            for (int q = 0; q < rounds; q++) {
                long turned = Convolver.cyclicEntry(line, chirps, rounds, q);
                made[seats[opposite(q, rounds)]] = plan.remainder(entries[0] + turned);
            }
            copyMade(entries, size);
        }

        private void fillSeats(Plan plan, int rounds) {
            int seat = 1;
            for (int m = 0; m < rounds; m++) {
                seats[m] = seat;
                seat = Numbers.remainder((long) seat * plan.generator(), plan.size());
            }
        }

        private static int opposite(int number, int rounds) {
            return number == 0 ? 0 : rounds - number;
        }

        /**
         * j * k is pairs(j + k) - pairs(j) - pairs(k), which needs no square root of the root as
         * halves of squares would. The convolution is done by sums, for Rader's reason.
         */
        void byBluestein(Plan plan, int[] entries, int turn) {
            int size = plan.size();
            for (int number = 0; number < 2 * size - 1; number++) {
                chirps[number] = plan.power(turn * pairs(number));
            }
            for (int j = 0; j < size; j++) {
                line[j] = plan.remainder((long) entries[j] * plan.power(-turn * pairs(j)));
            }
            for (int k = 0; k < size; k++) {
                long total = 0;
                for (int j = 0; j < size; j++) {
                    total += (long) line[j] * chirps[j + k];
                }
                made[k] = plan.remainder((long) plan.remainder(total) * plan.power(-turn * pairs(k)));
            }
            copyMade(entries, size);
        }

        /** How many pairs there are of so many things. */
        private static int pairs(int things) {
            return things * (things - 1) / 2;
        }

        private void copyMade(int[] entries, int size) {
            for (int k = 0; k < size; k++) {
                entries[k] = made[k];
            }
        }
    }

    /** Convolutions by sums, of whole rows and in blocks. */
    private static final class Convolver {
        private final int[] results = new int[MOST_ENTRIES];
        /** A block, and the entries before it that the longest kernel reaches back over. */
        private final int[] window = new int[MOST_ENTRIES + LONGEST_BLOCK];

        int[] results() {
            return results;
        }

        static long cyclicEntry(int[] one, int[] other, int size, int k) {
            long total = 0;
            for (int j = 0; j < size; j++) {
                int i = j <= k ? k - j : k - j + size;
                total += (long) one[j] * other[i];
            }
            return total;
        }

        void overlapAdd(Row signal, Row kernel, int block) {
            Arrays.fill(results, 0);
            int step = Math.max(block, 1);
            for (int start = 0; start < signal.count(); start += step) {
                addProducts(signal, start, Math.min(start + step, signal.count()), kernel);
            }
        }

        /** The rows' lengths, which the caller has tested, keep the results within a row. */
        private void addProducts(Row signal, int start, int end, Row kernel) {
            for (int j = start; j < end; j++) {
                for (int i = 0; i < kernel.count(); i++) {
                    results[j + i] += signal.entry(j) * kernel.entry(i);
                }
            }
        }

        void overlapSave(Row signal, Row kernel, int block) {
            int total = signal.count() + kernel.count() - 1;
            int step = Math.max(block, 1);
            for (int start = 0; start < total; start += step) {
                saveBlock(signal, kernel, start, Math.min(start + step, total));
            }
        }

        private void saveBlock(Row signal, Row kernel, int start, int end) {
            int reach = kernel.count() - 1;
            int first = start - reach;
            for (int j = first; j < end; j++) {
                window[j - first] = signal.entry(j);
            }
            for (int k = start; k < end; k++) {
                int total = 0;
                for (int i = 0; i <= reach; i++) {
                    total += kernel.entry(i) * window[k - first - i];
                }
                results[k] = total;
            }
        }

        /** Leaves the digits of the product in the results, and answers how many they are. */
        int product(Row one, Row other) {
            Arrays.fill(results, 0);
            addProducts(one, 0, one.count(), other);
            int carry = 0;
            int digits = 1;
            for (int k = 0; k < one.count() + other.count(); k++) {
                carry += results[k];
                results[k] = carry % 10;
                carry /= 10;
                if (results[k] != 0) {
                    digits = k + 1;
                }
            }
            return digits;
        }
    }

    /** What the transforms need of the theory of numbers. */
    private static final class Numbers {
        /** Above the number of binary digits of any exponent, and of prime factors of any number, here. */
        private static final int MOST_BITS = 14;

        /** From 0 to the modulus less 1; 0 where there is no such modulus. */
        static int remainder(long value, int modulus) {
            if (modulus < 1) {
                return 0;
            }
            long rest = value % modulus;
            return (int) (rest < 0 ? rest + modulus : rest);
        }

        static int power(int base, int exponent, int modulus) {
            int result = 1;
            for (int bit = MOST_BITS - 1; bit >= 0; bit--) {
                result = remainder((long) result * result, modulus);
                if ((exponent >> bit & 1) == 1) {
                    result = remainder((long) result * base, modulus);
                }
            }
            return result;
        }

        /** The least divisor above 1. Never below 2, even of 1, which has none: the callers divide by it. */
        static int leastFactor(int number) {
            for (int divisor = 2; divisor * divisor <= number; divisor++) {
                if (number % divisor == 0) {
                    return divisor;
                }
            }
            return Math.max(number, 2);
        }

        static boolean isPrime(int number) {
            return number > 1 && leastFactor(number) == number;
        }

        /** The highest power of the least prime factor that divides a number; of 1, 1. */
        static int leastPrimePart(int number) {
            int factor = leastFactor(number);
            int part = 1;
            for (int step = 0; step < MOST_BITS && number % (part * factor) == 0; step++) {
                part *= factor;
            }
            return part;
        }

        static int leastPrimitiveRoot(int prime) {
            for (int candidate = 1; candidate < prime; candidate++) {
                if (isPrimitiveRoot(candidate, prime)) {
                    return candidate;
                }
            }
            return 1;
        }

        private static boolean isPrimitiveRoot(int candidate, int prime) {
            int rest = prime - 1;
            for (int step = 0; step < MOST_BITS && rest > 1; step++) {
                int factor = leastFactor(rest);
                if (power(candidate, (prime - 1) / factor, prime) == 1) {
                    return false;
                }
                rest /= factor;
            }
            return true;
        }
    }
}
