/**
 * Two functions of up to four inputs, each 1, 0 or anything for all inputs, as sums of products
 * that they share: the products that may be needed, those that must be, and the least sum.
 */
public final class CoverHouse {
    /** There is none. */
    public static final int NONE = -1;

    private static final int MOST_INPUTS = 4;
    private static final int MOST_OUTPUTS = 2;
    /** 3 to the power of MOST_INPUTS. */
    private static final int PRODUCTS = 81;
    /** How many inputs there can be: output o at inputs i is place SPAN * o + i. */
    private static final int SPAN = 16;
    private static final int PLACES = 32;

    private final int[] oneSets = new int[MOST_OUTPUTS];
    private final int[] zeroSets = new int[MOST_OUTPUTS];
    private final Search search = new Search();
    private final Candidates table = search.table;
    private int inputCount;
    private int outputCount;
    /** Whether the table, and the least cover, are those of the outputs as they are now. */
    private boolean gathered;
    private boolean searched;

    /** One input, one output, which is 0. */
    public CoverHouse() {
        restart(1, 1);
    }

    /** So many inputs and outputs; all outputs are 0. */
    public void begin(int inputs, int outputs) throws IllegalArgumentException {
        if (inputs < 1 || inputs > MOST_INPUTS) {
            throw new IllegalArgumentException("inputs are 1 to 4");
        }
        if (outputs < 1 || outputs > MOST_OUTPUTS) {
            throw new IllegalArgumentException("outputs are 1 to 2");
        }
        restart(inputs, outputs);
    }

    /** An output is 1 for some inputs, anything for others, 0 for the rest. */
    public void set(int output, int one, int anything)
            throws IndexOutOfBoundsException, IllegalArgumentException {
        if (!isOutput(output)) {
            throw new IndexOutOfBoundsException("no such output");
        }
        int all = allInputs();
        if (((one | anything) & ~all) != 0) {
            throw new IllegalArgumentException("a set has inputs that there aren't");
        }
        if ((one & anything) != 0) {
            throw new IllegalArgumentException("the sets have inputs in common");
        }
        oneSets[output] = one;
        zeroSets[output] = all & ~(one | anything);
        forget();
    }

    /** How many candidates there are. */
    public int candidates() {
        gather();
        return table.count;
    }

    /** Of candidate i: 0 number, 1 outputs, 2 parts, 3 whether needed, 4 inputs for which it is 1. */
    public int candidate(int i, int what) throws IndexOutOfBoundsException, IllegalArgumentException {
        gather();
        if (i < 0 || i >= table.count) {
            throw new IndexOutOfBoundsException("no such candidate");
        }
        switch (what) {
            case 0:
                return table.numbers[i];
            case 1:
                return table.outputs[i];
            case 2:
                return table.sizes[i];
            case 3:
                return table.isNeeded(i) ? 1 : 0;
            case 4:
                return table.inputs[i] & allInputs();
            default:
                throw new IllegalArgumentException("what is 0 to 4");
        }
    }

    /** How many candidates the least cover has. */
    public int least() {
        solve();
        return search.pickedCount;
    }

    /** How many parts all of the least cover have. */
    public int parts() {
        solve();
        return search.pickedParts;
    }

    /** The k-th candidate of the least cover. */
    public int chosen(int k) throws IndexOutOfBoundsException {
        solve();
        if (k < 0 || k >= search.pickedCount) {
            throw new IndexOutOfBoundsException("the least cover has no such candidate");
        }
        return search.picked[k];
    }

    /** What the least cover makes of an output for inputs. */
    public boolean value(int output, int inputs)
            throws IndexOutOfBoundsException, IllegalArgumentException {
        if (!isOutput(output)) {
            throw new IndexOutOfBoundsException("no such output");
        }
        if (inputs < 0 || inputs >= 1 << inputCount) {
            throw new IllegalArgumentException("no such inputs");
        }
        solve();
        return search.makesOne(output, inputs);
    }

    /** How many of the candidates numbered so or higher are left without the redundant ones. */
    public int thinned(int from) {
        gather();
        return table.countThinned(from);
    }

    private void restart(int inputs, int outputs) {
        inputCount = inputs;
        outputCount = outputs;
        for (int o = 0; o < MOST_OUTPUTS; o++) {
            oneSets[o] = 0;
            zeroSets[o] = allInputs();
        }
        forget();
    }

    private void forget() {
        gathered = false;
        searched = false;
    }

    private void gather() {
        if (!gathered) {
            table.fill(inputCount, outputCount, oneSets, zeroSets);
            gathered = true;
        }
    }

    private void solve() {
        gather();
        if (!searched) {
            search.findLeast();
            searched = true;
        }
    }

    private boolean isOutput(int output) {
        return output >= 0 && output < outputCount;
    }

    private int allInputs() {
        return (1 << (1 << inputCount)) - 1;
    }

    /** All products of four inputs, by number; those of fewer inputs are the first of them. */
    private static final class Products {
        private static final int[] POWERS = {1, 3, 9, 27, 81};
        /** For which inputs input k is 1. */
        private static final int[] INPUT_SETS = {0xAAAA, 0xCCCC, 0xF0F0, 0xFF00};
        private static final int EVERYWHERE = 0xFFFF;

        /** Of each product the inputs for which it is 1, and how many parts it has. */
        final int[] inputs = new int[PRODUCTS];
        final int[] sizes = new int[PRODUCTS];

        Products() {
            for (int p = 0; p < PRODUCTS; p++) {
                describe(p);
            }
        }

        private void describe(int p) {
            int where = EVERYWHERE;
            int size = 0;
            int rest = p;
            for (int k = 0; k < MOST_INPUTS; k++) {
                int kind = rest % 3;
                rest = rest / 3;
                if (kind == 1) {
                    where &= INPUT_SETS[k];
                    size++;
                } else if (kind == 2) {
                    where &= ~INPUT_SETS[k];
                    size++;
                }
            }
            inputs[p] = where;
            sizes[p] = size;
        }

        static int howMany(int inputCount) {
            return inputCount >= 0 && inputCount <= MOST_INPUTS ? POWERS[inputCount] : 0;
        }

        /** Product p without its part of input k: p itself if it has none. */
        static int withoutPart(int p, int k) {
            if (p < 0 || p >= PRODUCTS || k < 0 || k >= MOST_INPUTS) {
                return p;
            }
            int power = POWERS[k];
            int kind = power == 0 ? 0 : p / power % 3;
            return p - kind * power;
        }
    }

    /**
     * The candidates, by their products' numbers. Sets of them are longs, bit i for candidate i:
     * each candidate is a prime product of the first output, the second or both at once, and a
     * function of four inputs has at most 13 of these, so there are never more than 39.
     */
    private static final class Candidates {
        final int[] numbers = new int[PRODUCTS];
        final int[] outputs = new int[PRODUCTS];
        final int[] sizes = new int[PRODUCTS];
        final int[] inputs = new int[PRODUCTS];
        /** The places that are 1 where the candidate serves. */
        final long[] places = new long[PRODUCTS];
        int count;
        /** All places that are 1, and those of them that one candidate alone serves. */
        long duePlaces;
        private long lonelyPlaces;

        private final Products products = new Products();
        private final int[] outputsOfProduct = new int[PRODUCTS];

        void fill(int inputCount, int outputCount, int[] oneSets, int[] zeroSets) {
            int howMany = Products.howMany(inputCount);
            for (int p = 0; p < howMany && p < PRODUCTS; p++) {
                outputsOfProduct[p] = outputsOf(products.inputs[p], outputCount, zeroSets);
            }
            duePlaces = placesOf(oneSets, (1 << MOST_OUTPUTS) - 1);
            count = 0;
            for (int p = 0; p < howMany && p < PRODUCTS; p++) {
                if (count < PRODUCTS && isCandidate(p)) {
                    append(p, oneSets);
                }
            }
            findLonelyPlaces();
        }

        private static int outputsOf(int where, int outputCount, int[] zeroSets) {
            int which = 0;
            for (int o = 0; o < outputCount && o < zeroSets.length; o++) {
                if ((where & zeroSets[o]) == 0) {
                    which |= 1 << o;
                }
            }
            return which;
        }

        private static long placesOf(int[] sets, int which) {
            long all = 0L;
            for (int o = 0; o < sets.length; o++) {
                if ((which >> o & 1) != 0) {
                    all |= (long) sets[o] << SPAN * o;
                }
            }
            return all;
        }

        private boolean isCandidate(int p) {
            int which = outputsOfProduct[p];
            if (which == 0) {
                return false;
            }
            for (int k = 0; k < MOST_INPUTS; k++) {
                int wider = Products.withoutPart(p, k);
                if (wider != p && wider >= 0 && outputsOfProduct[wider] == which) {
                    return false;
                }
            }
            return true;
        }

        private void append(int p, int[] oneSets) {
            int where = products.inputs[p];
            numbers[count] = p;
            outputs[count] = outputsOfProduct[p];
            sizes[count] = products.sizes[p];
            inputs[count] = where;
            long everyOutput = (long) where << SPAN | where;
            places[count] = everyOutput & placesOf(oneSets, outputs[count]);
            count++;
        }

        private void findLonelyPlaces() {
            long served = 0L;
            long servedAgain = 0L;
            for (int i = 0; i < count; i++) {
                servedAgain |= served & places[i];
                served |= places[i];
            }
            lonelyPlaces = served & ~servedAgain;
        }

        boolean isNeeded(int i) {
            return i >= 0 && i < count && (places[i] & lonelyPlaces) != 0L;
        }

        boolean isCover(long some) {
            long served = 0L;
            for (int i = 0; i < count; i++) {
                if ((some >> i & 1L) != 0L) {
                    served |= places[i];
                }
            }
            return served == duePlaces;
        }

        int countThinned(int from) {
            long kept = 0L;
            for (int i = 0; i < count; i++) {
                if (numbers[i] >= from) {
                    kept |= 1L << i;
                }
            }
            if (!isCover(kept)) {
                return NONE;
            }
            for (int i = count - 1; i >= 0; i--) {
                long without = kept & ~(1L << i);
                if (without != kept && isCover(without)) {
                    kept = without;
                }
            }
            return Long.bitCount(kept);
        }
    }

    /** Finds the least cover: tries the candidates of one open place after the other. */
    private static final class Search {
        /** What a candidate weighs beside its parts: more than the parts of all candidates. */
        private static final int EACH = 1000;
        private static final int TOO_HEAVY = 1000000;

        final int[] picked = new int[PRODUCTS];
        int pickedCount;
        int pickedParts;

        final Candidates table = new Candidates();
        private final int[] weights = new int[PRODUCTS];
        /** Of each place the candidates that serve it. */
        private final long[] servers = new long[PLACES];
        private int bestWeight;
        private long bestSet;

        void findLeast() {
            for (int i = 0; i < table.count; i++) {
                weights[i] = EACH + table.sizes[i];
            }
            for (int place = 0; place < PLACES; place++) {
                servers[place] = serversOf(place);
            }
            bestWeight = TOO_HEAVY;
            bestSet = 0L;
            extend(0, table.duePlaces, (1L << table.count) - 1L, 0, 0L);
            listBest();
        }

        boolean makesOne(int output, int inputs) {
            for (int i = 0; i < table.count; i++) {
                boolean isPicked = (bestSet >> i & 1L) != 0L;
                boolean isOf = (table.outputs[i] >> output & 1) != 0;
                if (isPicked && isOf && (table.inputs[i] >> inputs & 1) != 0) {
                    return true;
                }
            }
            return false;
        }

        private long serversOf(int place) {
            long some = 0L;
            for (int i = 0; i < table.count; i++) {
                some |= (table.places[i] >> place & 1L) << i;
            }
            return some;
        }

        private void listBest() {
            pickedCount = 0;
            pickedParts = 0;
            for (int i = 0; i < table.count; i++) {
                if ((bestSet >> i & 1L) != 0L && pickedCount < PRODUCTS) {
                    picked[pickedCount] = i;
                    pickedCount++;
                    pickedParts += table.sizes[i];
                }
            }
        }

        /** Every level serves a place more, so there are at most as many levels as places. */
        private void extend(int depth, long open, long free, int weight, long taken) {
            if (open == 0L) {
                keepIfBetter(weight, taken);
                return;
            }
            if (depth >= PLACES) {
                return;
            }
            long useful = withoutDominated(open, free);
            // No cover found from here weighs less, or has lesser first candidates, than this.
            if (!isBetterThanBest(weight + weightToCome(open, useful), taken | useful)) {
                return;
            }
            long tries = fewestServers(open, useful);
            for (int i = 0; i < table.count; i++) {
                long self = 1L << i;
                if ((tries & self) != 0L) {
                    // What has been tried here is left out after: else sets would come twice.
                    useful &= ~self;
                    extend(depth + 1, open & ~table.places[i], useful, weight + weights[i], taken | self);
                }
            }
        }

        private void keepIfBetter(int weight, long taken) {
            if (isBetterThanBest(weight, taken)) {
                bestWeight = weight;
                bestSet = taken;
            }
        }

        /** Of two sets the one that has the first candidate in which they differ goes before. */
        private boolean isBetterThanBest(int weight, long some) {
            long differing = some ^ bestSet;
            long firstDiffering = differing & -differing;
            return weight < bestWeight || weight == bestWeight && (some & firstDiffering) != 0L;
        }

        /** The least cover has no candidate instead of which, or beside which, a better one serves. */
        private long withoutDominated(long open, long free) {
            long useful = free;
            for (int i = 0; i < table.count; i++) {
                if ((free >> i & 1L) != 0L && isDominated(i, open, useful)) {
                    useful &= ~(1L << i);
                }
            }
            return useful;
        }

        private boolean isDominated(int i, long open, long useful) {
            long own = table.places[i] & open;
            if (own == 0L) {
                return true;
            }
            for (int j = 0; j < table.count; j++) {
                boolean servesAll = (useful >> j & 1L) != 0L && (own & ~table.places[j]) == 0L;
                if (servesAll && (weights[j] < weights[i] || weights[j] == weights[i] && j < i)) {
                    return true;
                }
            }
            return false;
        }

        /** No candidate serves two of the places counted here: each costs one of its own at least. */
        private int weightToCome(long open, long useful) {
            long counted = 0L;
            int sum = 0;
            for (int place = 0; place < PLACES; place++) {
                long some = servers[place] & useful;
                if ((open >> place & 1L) != 0L && (some & counted) == 0L) {
                    counted |= some;
                    sum += lightestOf(some);
                }
            }
            return sum;
        }

        private int lightestOf(long some) {
            int lightest = TOO_HEAVY;
            for (int i = 0; i < table.count; i++) {
                if ((some >> i & 1L) != 0L) {
                    lightest = Math.min(lightest, weights[i]);
                }
            }
            return lightest;
        }

        private long fewestServers(long open, long useful) {
            long fewest = useful;
            for (int place = 0; place < PLACES; place++) {
                long some = servers[place] & useful;
                if ((open >> place & 1L) != 0L && Long.bitCount(some) < Long.bitCount(fewest)) {
                    fewest = some;
                }
            }
            return fewest;
        }
    }
}
