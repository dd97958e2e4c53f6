import java.util.NoSuchElementException;

/** Tells whether two clouds of numbers differ, by counting all ways in which they could have come about. */
public final class CloudBench {
    public static final int NONE = -1;

    private static final int SAMPLES = 8;
    private static final int FULL = 20;
    private static final int BOTH_FULL = 2 * FULL;
    private static final int FARTHEST = 500;
    private static final int WIDEST = 2 * FARTHEST;
    private static final int MOST_TIMES = 10;
    private static final int MOST_SHIFT = 1000;
    private static final int FINEST = 1000;
    private static final int KEPT_ROWS = 2000;

    private static final int SUMS = 0;
    private static final int RANKS = 1;
    private static final int MOST = 2;
    private static final int SIGNS = 3;
    private static final int TURNS = 4;
    private static final int ORDER = 5;

    private static final int NOT_LESS = 0;
    private static final int NOT_GREATER = 1;
    private static final int AS_FAR = 2;

    private final Sample[] samples;
    private final Pool pool;
    private final Pairing pairing;
    private final Question question;
    private final Ladder ladder;
    private final Reach reach;
    private final Grid grid;
    private final Roll roll;

    public CloudBench() {
        samples = new Sample[SAMPLES];
        for (int i = 0; i < SAMPLES; i++) {
            samples[i] = new Sample();
        }
        pool = new Pool();
        pairing = new Pairing();
        Choices choices = new Choices();
        Ways ways = new Ways();
        question = new Question(pool, pairing, choices, ways);
        ladder = new Ladder();
        reach = new Reach(choices, ways);
        grid = new Grid(choices);
        roll = new Roll();
    }

    public int put(int sample, int v) {
        if (!isSample(sample) || !isNumber(v)) {
            return NONE;
        }
        return samples[sample].append(v) ? samples[sample].size : NONE;
    }

    public int drop(int sample) {
        if (!isSample(sample)) {
            return NONE;
        }
        int had = samples[sample].size;
        samples[sample].size = 0;
        return had;
    }

    public boolean turn(int sample, int k, int c) {
        if (!isSample(sample) || k < -MOST_TIMES || k > MOST_TIMES || c < -MOST_SHIFT || c > MOST_SHIFT) {
            return false;
        }
        if (!samples[sample].staysWithin(k, c)) {
            return false;
        }
        samples[sample].change(k, c);
        return true;
    }

    public int number(int sample, int i) throws IndexOutOfBoundsException {
        if (!isSample(sample) || i < 0 || i >= samples[sample].size) {
            throw new IndexOutOfBoundsException("there is no such number");
        }
        return samples[sample].numbers[i];
    }

    public int rank(int a, int b, int k) {
        if (!areTwo(a, b)) {
            return NONE;
        }
        pool.gather(samples[a], samples[b]);
        return k < 0 || k >= pool.size ? NONE : doubledRank(pool.numbers, pool.size, k);
    }

    public int noughts(int a, int b) {
        if (!areTwo(a, b) || samples[a].size != samples[b].size) {
            return NONE;
        }
        pairing.gather(samples[a], samples[b]);
        return pairing.leftOut;
    }

    public long score(int test, int a, int b) throws NoSuchElementException {
        mustBeAsked(test, a, b);
        question.pose(test, samples[a], samples[b]);
        return question.score;
    }

    public long total(int test, int a, int b) throws NoSuchElementException {
        mustBeAsked(test, a, b);
        question.pose(test, samples[a], samples[b]);
        return question.total;
    }

    public long count(int test, int a, int b, int side) throws NoSuchElementException {
        mustBeAsked(test, a, b);
        if (!isSide(side)) {
            throw new NoSuchElementException("there is no such side");
        }
        question.pose(test, samples[a], samples[b]);
        return question.countBy(side);
    }

    public int spread(int test, int a, int b) throws NoSuchElementException {
        mustBeAsked(test, a, b);
        question.pose(test, samples[a], samples[b]);
        question.listInto(ladder);
        return ladder.size;
    }

    public long row(int k, int what) {
        if (k < 0 || k >= KEPT_ROWS || k >= ladder.size) {
            return NONE;
        }
        switch (what) {
            case 0:
                return ladder.scores[k];
            case 1:
                return ladder.shares[k];
            default:
                return NONE;
        }
    }

    public int span(int a, int b, int p, int q) {
        if (!areTwo(a, b) || !isChance(p, q)) {
            return NONE;
        }
        reach.measure(samples[a], samples[b], p, q);
        return reach.step;
    }

    public int ends(int what) {
        if (!reach.isMeasured) {
            return NONE;
        }
        switch (what) {
            case 0:
                return reach.lower;
            case 1:
                return reach.upper;
            case 2:
                return reach.step > 0 ? 1 : 0;
            case 3:
                return reach.middle;
            default:
                return NONE;
        }
    }

    public long pairs(int a, int b, int u) {
        if (!areTwo(a, b)) {
            return NONE;
        }
        return reach.waysOfPairs(samples[a].size, samples[b].size, u);
    }

    public boolean table(int rows, int columns) {
        return grid.layOut(rows, columns);
    }

    public boolean cell(int row, int column, int v) {
        return grid.fillIn(row, column, v);
    }

    public long margins(int what) {
        return grid.figure(what);
    }

    public int ask(int test, int a, int b, int side) {
        if (!canBeAsked(test, a, b) || !isSide(side) || roll.isFull()) {
            return NONE;
        }
        question.pose(test, samples[a], samples[b]);
        return roll.append(question.countBy(side), question.total);
    }

    public long asked(int i, int what) {
        if (i < 0 || i >= roll.size) {
            return NONE;
        }
        switch (what) {
            case 0:
                return roll.counts[i];
            case 1:
                return roll.totals[i];
            case 2:
                return roll.different[i] ? 1 : 0;
            default:
                return NONE;
        }
    }

    public int held(int p, int q) {
        return isChance(p, q) ? roll.callDifferent(p, q) : NONE;
    }

    public void anew() {
        roll.size = 0;
    }

    private void mustBeAsked(int test, int a, int b) {
        if (!canBeAsked(test, a, b)) {
            throw new NoSuchElementException("the question can't be asked");
        }
    }

    private boolean canBeAsked(int test, int a, int b) {
        if (test < SUMS || test > ORDER || !areTwo(a, b)) {
            return false;
        }
        if (test >= SIGNS && samples[a].size != samples[b].size) {
            return false;
        }
        return test != ORDER || !samples[a].hasTwice() && !samples[b].hasTwice();
    }

    private boolean areTwo(int a, int b) {
        return isSample(a) && isSample(b) && a != b && samples[a].size > 0 && samples[b].size > 0;
    }

    private static boolean isSample(int sample) {
        return sample >= 0 && sample < SAMPLES;
    }

    private static boolean isNumber(int v) {
        return v >= -FARTHEST && v <= FARTHEST;
    }

    private static boolean isSide(int side) {
        return side >= NOT_LESS && side <= AS_FAR;
    }

    private static boolean isChance(int p, int q) {
        return 0 < p && p < q && q <= FINEST;
    }

    private static int doubledRank(int[] values, int size, int k) {
        int less = 0;
        int alike = 0;
        for (int i = 0; i < size; i++) {
            if (values[i] < values[k]) {
                less++;
            } else if (values[i] == values[k]) {
                alike++;
            }
        }
        return 2 * less + alike + 1;
    }

    private static int sumOf(int[] values, int size) {
        int sum = 0;
        for (int i = 0; i < size; i++) {
            sum += values[i];
        }
        return sum;
    }

    private static void sort(int[] values, int size) {
        for (int i = 1; i < size; i++) {
            int value = values[i];
            int place = i;
            while (place > 0 && values[place - 1] > value) {
                values[place] = values[place - 1];
                place--;
            }
            values[place] = value;
        }
    }

    private static final class Sample {
        private final int[] numbers;
        private int size;

        Sample() {
            numbers = new int[FULL];
        }

        boolean append(int v) {
            if (size >= FULL) {
                return false;
            }
            numbers[size] = v;
            size++;
            return true;
        }

        boolean staysWithin(int times, int shift) {
            for (int i = 0; i < size; i++) {
                if (!isNumber(numbers[i] * times + shift)) {
                    return false;
                }
            }
            return true;
        }

        void change(int times, int shift) {
            for (int i = 0; i < size; i++) {
                numbers[i] = numbers[i] * times + shift;
            }
        }

        boolean hasTwice() {
            for (int i = 0; i < size; i++) {
                for (int j = 0; j < i; j++) {
                    if (numbers[i] == numbers[j]) {
                        return true;
                    }
                }
            }
            return false;
        }

        int countUpTo(int x) {
            int found = 0;
            for (int i = 0; i < size; i++) {
                if (numbers[i] <= x) {
                    found++;
                }
            }
            return found;
        }
    }

    /** ALL numbers of two samples, the first one's ahead. */
    private static final class Pool {
        private final int[] numbers;
        private int size;

        Pool() {
            numbers = new int[BOTH_FULL];
        }

        void gather(Sample a, Sample b) {
            for (int i = 0; i < a.size; i++) {
                numbers[i] = a.numbers[i];
            }
            for (int i = 0; i < b.size; i++) {
                numbers[a.size + i] = b.numbers[i];
            }
            size = a.size + b.size;
        }

        int least() {
            int least = FARTHEST;
            for (int i = 0; i < size; i++) {
                least = Math.min(least, numbers[i]);
            }
            return least;
        }
    }

    /** The DIFFERENCES of two samples of one size. */
    private static final class Pairing {
        private final int[] differences;
        private final int[] sizes;
        private int size;
        private int leftOut;

        Pairing() {
            differences = new int[FULL];
            sizes = new int[FULL];
        }

        void gather(Sample a, Sample b) {
            size = 0;
            leftOut = 0;
            int places = Math.min(a.size, b.size);
            for (int i = 0; i < places; i++) {
                int difference = a.numbers[i] - b.numbers[i];
                if (difference == 0) {
                    leftOut++;
                } else {
                    differences[size] = difference;
                    sizes[size] = Math.abs(difference);
                    size++;
                }
            }
        }
    }

    /** How many things can be chosen out of how many, for as many things as two full samples or a full table hold. */
    private static final class Choices {
        private static final int SIDE = BOTH_FULL + 1;
        private final long[] cells;

        Choices() {
            cells = new long[SIDE * SIDE];
            for (int n = 0; n < SIDE; n++) {
                cells[n * SIDE] = 1;
                for (int k = 1; k <= n; k++) {
                    cells[n * SIDE + k] = cells[(n - 1) * SIDE + k - 1] + cells[(n - 1) * SIDE + k];
                }
            }
        }

        long of(int n, int k) {
            return n < 0 || n >= SIDE || k < 0 || k > n ? 0 : cells[n * SIDE + k];
        }
    }

    /**
     * How many sharings have each key. All designs use one row of cells again, which is long enough for the sums of
     * up to 20 numbers that are 0 .. 1000: these need a stretch for each count of chosen numbers, each 1000 longer.
     */
    private static final class Ways {
        private static final int GAP_STRETCH = FULL * FULL + 1;
        private final long[] cells;
        private final int[] leastSums;
        private int start;
        private int first;
        private int last;

        Ways() {
            cells = new long[startOfSums(FULL + 1)];
            leastSums = new int[BOTH_FULL + 1];
        }

        long of(int key) {
            return key < first || key > last ? 0 : cells[start + key];
        }

        /** By the sum of the chosen ones; values rise and are 0 .. 1000. */
        void chooseSums(int[] values, int size, int chosen) {
            leastSums[0] = 0;
            for (int i = 0; i < size; i++) {
                leastSums[i + 1] = leastSums[i] + values[i];
            }
            for (int j = 0; j <= chosen; j++) {
                clear(startOfSums(j) + leastSums[j], startOfSums(j) + greatestSum(size, j));
            }
            cells[0] = 1;
            for (int i = 1; i <= size; i++) {
                // fewer than this can't grow to the full choice with what is left
                int fewest = Math.max(1, chosen - (size - i));
                for (int j = Math.min(i, chosen); j >= fewest; j--) {
                    chooseNext(i, j, values[i - 1]);
                }
            }
            settle(startOfSums(chosen), leastSums[chosen], greatestSum(size, chosen));
        }

        /** The i-th value as the j-th chosen one: j falls from call to call, so that no value is chosen twice. */
        private void chooseNext(int i, int j, int value) {
            int from = startOfSums(j - 1);
            int to = startOfSums(j) + value;
            int greatest = greatestSum(i - 1, j - 1);
            for (int sum = leastSums[j - 1]; sum <= greatest; sum++) {
                cells[to + sum] += cells[from + sum];
            }
        }

        private int greatestSum(int size, int chosen) {
            return leastSums[size] - leastSums[size - chosen];
        }

        /** By the greatest gap between the chosen ones' and the others' shares up to a value; values rise. */
        void chooseGaps(int[] values, int size, int chosen) {
            clear(0, (chosen + 1) * GAP_STRETCH - 1);
            cells[0] = 1;
            for (int i = 1; i <= size; i++) {
                int fewest = Math.max(0, chosen - (size - i));
                int most = Math.min(i, chosen);
                for (int j = most; j >= Math.max(1, fewest); j--) {
                    addGaps(j);
                }
                // alike values are passed all at once: a gap among them is none
                if (i == size || values[i] != values[i - 1]) {
                    for (int j = fewest; j <= most; j++) {
                        liftGaps(j, Math.abs(size * j - chosen * i));
                    }
                }
            }
            settle(chosen * GAP_STRETCH, 0, chosen * (size - chosen));
        }

        private void addGaps(int j) {
            int from = (j - 1) * GAP_STRETCH;
            int to = j * GAP_STRETCH;
            for (int gap = 0; gap < GAP_STRETCH; gap++) {
                cells[to + gap] += cells[from + gap];
            }
        }

        private void liftGaps(int j, int reached) {
            int from = j * GAP_STRETCH;
            for (int gap = 0; gap < reached; gap++) {
                cells[from + reached] += cells[from + gap];
                cells[from + gap] = 0;
            }
        }

        /** By the sum of those sizes whose sign is turned to be above 0; sizes are 1 .. 1000. */
        void turnSums(int[] sizes, int size) {
            int all = sumOf(sizes, size);
            clear(0, all);
            cells[0] = 1;
            int reached = 0;
            for (int i = 0; i < size; i++) {
                for (int sum = reached; sum >= 0; sum--) {
                    cells[sum + sizes[i]] += cells[sum];
                }
                reached += sizes[i];
            }
            settle(0, 0, all);
        }

        /** By how many pairs of places are in order. */
        void orderPairs(int size) {
            int all = size * (size - 1) / 2;
            clear(0, all);
            cells[0] = 1;
            for (int i = 2; i <= size; i++) {
                int most = i * (i - 1) / 2;
                // the i-th thing adds 0 .. i - 1 pairs: a sum over i neighbours, as a running sum less a later one
                for (int pair = 1; pair <= most; pair++) {
                    cells[pair] += cells[pair - 1];
                }
                for (int pair = most; pair >= i; pair--) {
                    cells[pair] -= cells[pair - i];
                }
            }
            settle(0, 0, all);
        }

        private void clear(int from, int to) {
            for (int i = from; i <= to; i++) {
                cells[i] = 0;
            }
        }

        private void settle(int newStart, int newFirst, int newLast) {
            start = newStart;
            first = newFirst;
            last = newLast;
        }

        private static int startOfSums(int chosen) {
            return WIDEST * (chosen * (chosen - 1) / 2) + chosen;
        }
    }

    /**
     * A TEST of two samples that can be asked. The SCORE of a key is stretch times it and shift more; FAR of a SCORE
     * is farTimes it less farCentre, without sign.
     */
    private static final class Question {
        private final Pool pool;
        private final Pairing pairing;
        private final Choices choices;
        private final Ways ways;
        private final int[] values;
        private int test;
        private int size;
        private int chosen;
        private long score;
        private long total;
        private long stretch;
        private long shift;
        private long farTimes;
        private long farCentre;

        Question(Pool pool, Pairing pairing, Choices choices, Ways ways) {
            this.pool = pool;
            this.pairing = pairing;
            this.choices = choices;
            this.ways = ways;
            values = new int[BOTH_FULL];
        }

        void pose(int newTest, Sample a, Sample b) {
            test = newTest;
            switch (newTest) {
                case SUMS:
                    poseSums(a, b);
                    break;
                case RANKS:
                    poseRanks(a, b);
                    break;
                case MOST:
                    poseMost(a, b);
                    break;
                case SIGNS:
                    poseSigns(a, b);
                    break;
                case TURNS:
                    poseTurns(a, b);
                    break;
                default:
                    poseOrder(a, b);
                    break;
            }
        }

        long countBy(int side) {
            countWays();
            long found = 0;
            for (int key = ways.first; key <= ways.last; key++) {
                if (isOnSide(stretch * key + shift, side)) {
                    found += ways.of(key);
                }
            }
            return found;
        }

        void listInto(Ladder ladder) {
            countWays();
            ladder.size = 0;
            for (int key = ways.first; key <= ways.last; key++) {
                if (ways.of(key) > 0) {
                    ladder.append(stretch * key + shift, ways.of(key));
                }
            }
        }

        private boolean isOnSide(long other, int side) {
            switch (side) {
                case NOT_LESS:
                    return other >= score;
                case NOT_GREATER:
                    return other <= score;
                default:
                    return far(other) >= far(score);
            }
        }

        private long far(long other) {
            return Math.abs(farTimes * other - farCentre);
        }

        private void countWays() {
            switch (test) {
                case SUMS:
                case RANKS:
                    sort(values, size);
                    ways.chooseSums(values, size, chosen);
                    break;
                case MOST:
                    sort(values, size);
                    ways.chooseGaps(values, size, chosen);
                    break;
                case SIGNS:
                case TURNS:
                    ways.turnSums(values, size);
                    break;
                default:
                    ways.orderPairs(size);
                    break;
            }
        }

        private void poseSums(Sample a, Sample b) {
            poseChoice(a, b);
            int least = pool.least();
            for (int i = 0; i < size; i++) {
                values[i] = pool.numbers[i] - least;
            }
            score = sumOf(a.numbers, a.size);
            measure(1, chosen * least, size, chosen * sumOf(pool.numbers, size));
        }

        private void poseRanks(Sample a, Sample b) {
            poseChoice(a, b);
            for (int i = 0; i < size; i++) {
                values[i] = doubledRank(pool.numbers, size, i);
            }
            score = sumOf(values, chosen);
            measure(1, 0, 1, chosen * (size + 1));
        }

        private void poseMost(Sample a, Sample b) {
            poseChoice(a, b);
            score = 0;
            for (int i = 0; i < size; i++) {
                values[i] = pool.numbers[i];
                int gap = b.size * a.countUpTo(values[i]) - a.size * b.countUpTo(values[i]);
                score = Math.max(score, Math.abs(gap));
            }
            measure(1, 0, 1, 0);
        }

        private void poseSigns(Sample a, Sample b) {
            posePairs(a, b);
            score = 0;
            for (int i = 0; i < size; i++) {
                values[i] = doubledRank(pairing.sizes, size, i);
                if (pairing.differences[i] > 0) {
                    score += values[i];
                }
            }
            measure(1, 0, 2, sumOf(values, size));
        }

        private void poseTurns(Sample a, Sample b) {
            posePairs(a, b);
            for (int i = 0; i < size; i++) {
                values[i] = pairing.sizes[i];
            }
            score = sumOf(pairing.differences, size);
            measure(2, -sumOf(values, size), 1, 0);
        }

        private void poseOrder(Sample a, Sample b) {
            size = Math.min(a.size, b.size);
            chosen = 0;
            total = 1;
            score = 0;
            for (int i = 0; i < size; i++) {
                total *= i + 1;
                for (int j = 0; j < i; j++) {
                    boolean inOrder = (a.numbers[j] < a.numbers[i]) == (b.numbers[j] < b.numbers[i]);
                    score += inOrder ? 1 : -1;
                }
            }
            measure(2, -(size * (size - 1) / 2), 1, 0);
        }

        private void poseChoice(Sample a, Sample b) {
            pool.gather(a, b);
            size = pool.size;
            chosen = a.size;
            total = choices.of(size, chosen);
        }

        private void posePairs(Sample a, Sample b) {
            pairing.gather(a, b);
            size = pairing.size;
            chosen = 0;
            total = 1L << size;
        }

        private void measure(int newStretch, int newShift, int newFarTimes, int newFarCentre) {
            stretch = newStretch;
            shift = newShift;
            farTimes = newFarTimes;
            farCentre = newFarCentre;
        }
    }

    /** The latest list of SCORES: all are counted, the first ones kept. */
    private static final class Ladder {
        private final long[] scores;
        private final long[] shares;
        private int size;

        Ladder() {
            scores = new long[KEPT_ROWS];
            shares = new long[KEPT_ROWS];
        }

        void append(long newScore, long share) {
            if (size < KEPT_ROWS) {
                scores[size] = newScore;
                shares[size] = share;
            }
            size++;
        }
    }

    /** The SPAN of two samples, kept as it was when it was measured. */
    private static final class Reach {
        private final Choices choices;
        private final Ways ways;
        private final int[] places;
        private final int[] gaps;
        private boolean isMeasured;
        private int step;
        private int lower;
        private int upper;
        private int middle;

        Reach(Choices choices, Ways ways) {
            this.choices = choices;
            this.ways = ways;
            places = new int[BOTH_FULL];
            for (int i = 0; i < BOTH_FULL; i++) {
                places[i] = i;
            }
            gaps = new int[FULL * FULL];
        }

        void measure(Sample a, Sample b, int p, int q) {
            int size = gatherGaps(a, b);
            step = findStep(a.size, b.size, p, q);
            lower = step > 0 ? gaps[step - 1] : 0;
            upper = step > 0 ? gaps[size - step] : 0;
            middle = gaps[(size - 1) / 2] + gaps[size / 2];
            isMeasured = true;
        }

        long waysOfPairs(int chosen, int others, int u) {
            if (u < 0 || u > chosen * others) {
                return 0;
            }
            countPairs(chosen, others);
            return ways.of(ways.first + u);
        }

        private int gatherGaps(Sample a, Sample b) {
            int size = 0;
            for (int i = 0; i < a.size; i++) {
                for (int j = 0; j < b.size; j++) {
                    gaps[size] = a.numbers[i] - b.numbers[j];
                    size++;
                }
            }
            sort(gaps, size);
            return size;
        }

        private int findStep(int chosen, int others, int p, int q) {
            countPairs(chosen, others);
            long bound = p * choices.of(chosen + others, chosen);
            long below = 0;
            // p / q is below 1, so the steps end ahead of the middle
            for (int k = 0; k < chosen * others / 2; k++) {
                below += ways.of(ways.first + k);
                if (2 * q * below > bound) {
                    return k;
                }
            }
            return chosen * others / 2;
        }

        /** The pairs in which the chosen one is greater are the sum of the chosen places less the least such sum. */
        private void countPairs(int chosen, int others) {
            ways.chooseSums(places, chosen + others, chosen);
        }
    }

    /** The TABLE. One of two rows is held as one of three, whose last row stays empty: it has the same sharings. */
    private static final class Grid {
        private static final int ROWS = 3;
        private static final int COLUMNS = 4;
        private static final int MOST_THINGS = 40;
        private final Choices choices;
        private final int[] counts;
        private final int[] rowSums;
        private final int[] columnSums;
        private int rows;
        private int columns;
        private int things;
        private int firstNow;
        private long ownWays;
        private long unlikelyWays;
        private long tables;
        private long notLessWays;
        private long notGreaterWays;

        Grid(Choices choices) {
            this.choices = choices;
            counts = new int[ROWS * COLUMNS];
            rowSums = new int[ROWS];
            columnSums = new int[COLUMNS];
            rows = 2;
            columns = 2;
        }

        boolean layOut(int newRows, int newColumns) {
            if (newRows < 2 || newRows > ROWS || newColumns < 2 || newColumns > COLUMNS) {
                return false;
            }
            rows = newRows;
            columns = newColumns;
            things = 0;
            for (int i = 0; i < ROWS * COLUMNS; i++) {
                counts[i] = 0;
            }
            return true;
        }

        boolean fillIn(int row, int column, int v) {
            if (row < 0 || row >= rows || column < 0 || column >= columns || v < 0 || v > MOST_THINGS) {
                return false;
            }
            int place = row * COLUMNS + column;
            if (things - counts[place] + v > MOST_THINGS) {
                return false;
            }
            things += v - counts[place];
            counts[place] = v;
            return true;
        }

        long figure(int what) {
            addUp();
            switch (what) {
                case 0:
                    return waysToSplit(things, rowSums[0], rowSums[1]);
                case 1:
                    return ownWays;
                case 2:
                    tally();
                    return unlikelyWays;
                case 3:
                    tally();
                    return tables;
                case 4:
                    tally();
                    return notLessWays;
                case 5:
                    tally();
                    return notGreaterWays;
                default:
                    return NONE;
            }
        }

        private void addUp() {
            for (int i = 0; i < ROWS; i++) {
                rowSums[i] = 0;
            }
            ownWays = 1;
            for (int j = 0; j < COLUMNS; j++) {
                columnSums[j] = 0;
                for (int i = 0; i < ROWS; i++) {
                    rowSums[i] += counts[i * COLUMNS + j];
                    columnSums[j] += counts[i * COLUMNS + j];
                }
                ownWays *= waysToSplit(columnSums[j], counts[j], counts[COLUMNS + j]);
            }
        }

        private void tally() {
            unlikelyWays = 0;
            tables = 0;
            notLessWays = 0;
            notGreaterWays = 0;
            fillColumn(0, rowSums[0], rowSums[1], rowSums[2], 1);
        }

        /** Goes through all splits of a column and those behind it; top, centre and low are what the rows still lack. */
        private void fillColumn(int column, int top, int centre, int low, long ways) {
            if (column >= columns - 1) {
                note(ways * waysToSplit(columnSums[columns - 1], top, centre));
                return;
            }
            int sum = columnSums[column];
            int most = Math.min(sum, top);
            for (int x = Math.max(0, sum - centre - low); x <= most; x++) {
                if (column == 0) {
                    firstNow = x;
                }
                fillBelow(column, x, top, centre, low, ways * choices.of(sum, x));
            }
        }

        private void fillBelow(int column, int x, int top, int centre, int low, long ways) {
            int rest = columnSums[column] - x;
            int most = Math.min(rest, centre);
            for (int y = Math.max(0, rest - low); y <= most; y++) {
                fillColumn(column + 1, top - x, centre - y, low - (rest - y), ways * choices.of(rest, y));
            }
        }

        private void note(long ways) {
            tables++;
            if (ways <= ownWays) {
                unlikelyWays += ways;
            }
            if (firstNow >= counts[0]) {
                notLessWays += ways;
            }
            if (firstNow <= counts[0]) {
                notGreaterWays += ways;
            }
        }

        private long waysToSplit(int sum, int x, int y) {
            return choices.of(sum, x) * choices.of(sum - x, y);
        }
    }

    /** The LIST of chances. */
    private static final class Roll {
        private static final int MOST_STEPS = 200;
        private final long[] counts;
        private final long[] totals;
        private final boolean[] different;
        private int size;

        Roll() {
            counts = new long[FULL];
            totals = new long[FULL];
            different = new boolean[FULL];
        }

        boolean isFull() {
            return size >= FULL;
        }

        int append(long newCount, long newTotal) {
            if (isFull()) {
                return NONE;
            }
            counts[size] = newCount;
            totals[size] = newTotal;
            different[size] = false;
            size++;
            return size - 1;
        }

        int callDifferent(int p, int q) {
            for (int i = 0; i < size; i++) {
                different[i] = false;
            }
            for (int called = 0; called < size; called++) {
                int next = leastLeft();
                if (next < 0 || compareShares(counts[next], totals[next], p, (long) q * (size - called)) > 0) {
                    return called;
                }
                different[next] = true;
            }
            return size;
        }

        private int leastLeft() {
            int least = NONE;
            for (int i = 0; i < size; i++) {
                if (different[i]) {
                    continue;
                }
                if (least < 0 || compareShares(counts[i], totals[i], counts[least], totals[least]) < 0) {
                    least = i;
                }
            }
            return least;
        }

        /** Compares a / b with c / d by their continued fractions, since the products are too great for a long. */
        private static int compareShares(long a, long b, long c, long d) {
            int sign = 1;
            for (int i = 0; i < MOST_STEPS && b > 0 && d > 0; i++) {
                if (a / b != c / d) {
                    return a / b < c / d ? -sign : sign;
                }
                long restOfA = a % b;
                long restOfC = c % d;
                if (restOfA == 0 || restOfC == 0) {
                    return sign * Long.compare(restOfA, restOfC);
                }
                a = b;
                b = restOfA;
                c = d;
                d = restOfC;
                sign = -sign;
            }
            return 0;
        }
    }
}
