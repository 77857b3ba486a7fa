import java.util.ArrayList;
import java.util.List;

/** The document's terms, word for word and slowly: what CoverHouse is held against. */
final class Oracle {
    final int inputs;
    final int outputs;
    final int[] one;
    final int[] anything;
    final List<Integer> candidates = new ArrayList<>();
    int[] least = new int[0];
    int leastParts = Integer.MAX_VALUE;

    Oracle(int inputs, int outputs, int[] one, int[] anything) {
        this.inputs = inputs;
        this.outputs = outputs;
        this.one = one;
        this.anything = anything;
        for (int p = 0; p < products(); p++) {
            if (isCandidate(p)) {
                candidates.add(p);
            }
        }
        findLeast();
    }

    int products() {
        int n = 1;
        for (int k = 0; k < inputs; k++) {
            n *= 3;
        }
        return n;
    }

    int kind(int product, int k) {
        for (int j = 0; j < k; j++) {
            product /= 3;
        }
        return product % 3;
    }

    boolean isOne(int product, int at) {
        for (int k = 0; k < inputs; k++) {
            boolean bit = (at >> k & 1) == 1;
            if (kind(product, k) == 1 && !bit || kind(product, k) == 2 && bit) {
                return false;
            }
        }
        return true;
    }

    int onesOf(int product) {
        int set = 0;
        for (int at = 0; at < 1 << inputs; at++) {
            set |= isOne(product, at) ? 1 << at : 0;
        }
        return set;
    }

    int partsOf(int product) {
        int n = 0;
        for (int k = 0; k < inputs; k++) {
            n += kind(product, k) != 0 ? 1 : 0;
        }
        return n;
    }

    boolean isOf(int product, int output) {
        for (int at = 0; at < 1 << inputs; at++) {
            boolean zero = ((one[output] | anything[output]) >> at & 1) == 0;
            if (zero && isOne(product, at)) {
                return false;
            }
        }
        return true;
    }

    int outputsOf(int product) {
        int set = 0;
        for (int o = 0; o < outputs; o++) {
            set |= isOf(product, o) ? 1 << o : 0;
        }
        return set;
    }

    boolean isCandidate(int product) {
        int of = Integer.bitCount(outputsOf(product));
        int power = 1;
        for (int k = 0; k < inputs; k++) {
            int part = kind(product, k);
            if (part != 0 && Integer.bitCount(outputsOf(product - part * power)) >= of) {
                return false;
            }
            power *= 3;
        }
        return of > 0;
    }

    int answer(int i, int what) {
        int product = candidates.get(i);
        return switch (what) {
            case 0 -> product;
            case 1 -> outputsOf(product);
            case 2 -> partsOf(product);
            case 3 -> isNeeded(product) ? 1 : 0;
            default -> onesOf(product);
        };
    }

    boolean isNeeded(int candidate) {
        for (int o = 0; o < outputs; o++) {
            for (int at = 0; at < 1 << inputs; at++) {
                if ((one[o] >> at & 1) == 1 && !othersServe(candidate, o, at)) {
                    return true;
                }
            }
        }
        return false;
    }

    private boolean othersServe(int candidate, int o, int at) {
        for (int other : candidates) {
            if (other != candidate && isOf(other, o) && isOne(other, at)) {
                return true;
            }
        }
        return false;
    }

    long served(int product) {
        long places = 0;
        for (int o = 0; o < outputs; o++) {
            if (isOf(product, o)) {
                places |= (long) (onesOf(product) & one[o]) << 16 * o;
            }
        }
        return places;
    }

    long due() {
        return one[0] | (outputs > 1 ? (long) one[1] << 16 : 0L);
    }

    /** All sets of each size, in the order of their candidates, until a size has a cover. */
    private void findLeast() {
        long[] places = new long[candidates.size()];
        long[] rest = new long[candidates.size() + 1];
        for (int i = places.length - 1; i >= 0; i--) {
            places[i] = served(candidates.get(i));
            rest[i] = rest[i + 1] | places[i];
        }
        for (int size = 0; leastParts == Integer.MAX_VALUE; size++) {
            tryAll(new int[size], 0, 0, 0L, places, rest);
        }
    }

    private void tryAll(int[] set, int filled, int next, long served, long[] places, long[] rest) {
        if ((served | rest[next]) != due()) {
            return;
        }
        if (filled == set.length) {
            int parts = 0;
            for (int i : set) {
                parts += partsOf(candidates.get(i));
            }
            if (served == due() && parts < leastParts) {
                leastParts = parts;
                least = set.clone();
            }
            return;
        }
        for (int i = next; i < places.length; i++) {
            set[filled] = i;
            tryAll(set, filled + 1, i + 1, served | places[i], places, rest);
        }
    }

    boolean value(int output, int at) {
        for (int i : least) {
            if (isOf(candidates.get(i), output) && isOne(candidates.get(i), at)) {
                return true;
            }
        }
        return false;
    }

    int thinned(int from) {
        List<Integer> kept = new ArrayList<>();
        for (int product : candidates) {
            if (product >= from) {
                kept.add(product);
            }
        }
        if (!isCover(kept)) {
            return -1;
        }
        for (int i = kept.size() - 1; i >= 0; i--) {
            List<Integer> fewer = new ArrayList<>(kept);
            fewer.remove(i);
            if (isCover(fewer)) {
                kept = fewer;
            }
        }
        return kept.size();
    }

    private boolean isCover(List<Integer> some) {
        long served = 0;
        for (int product : some) {
            served |= served(product);
        }
        return served == due();
    }
}
