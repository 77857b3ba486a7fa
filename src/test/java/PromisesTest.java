/** Each promise by examples worked out by hand, the edges that the document names, and wrong inputs. */
public final class PromisesTest {
    private static final int[] WILD = {Integer.MIN_VALUE, -2, -1, 5, 6, 17, 100, Integer.MAX_VALUE};

    public static void main(String[] args) {
        newObject();
        begin();
        set();
        setWrongly();
        candidates();
        candidatesOfAnything();
        mostCandidates();
        candidate();
        candidateOfBoth();
        needed();
        candidateWrongly();
        leastByCount();
        leastByCountOfBoth();
        leastByParts();
        leastByOrder();
        leastOfNothing();
        leastShares();
        chosen();
        value();
        valueWrongly();
        thinned();
        thinnedOfNothing();
        Check.finish("PromisesTest");
    }

    private static CoverHouse with(int inputs, int one, int anything) {
        CoverHouse x = new CoverHouse();
        x.begin(inputs, 1);
        x.set(0, one, anything);
        return x;
    }

    private static CoverHouse withTwo(int inputs, int first, int second) {
        CoverHouse x = new CoverHouse();
        x.begin(inputs, 2);
        x.set(0, first, 0);
        x.set(1, second, 0);
        return x;
    }

    /** Promise 1. */
    private static void newObject() {
        CoverHouse x = new CoverHouse();
        Check.due("new: candidates", x.candidates(), 0);
        Check.due("new: least", x.least(), 0);
        Check.due("new: parts", x.parts(), 0);
        Check.due("new: value 0", x.value(0, 0), false);
        Check.due("new: value 1", x.value(0, 1), false);
        Check.ends("new: value of output 1", () -> x.value(1, 0), Check.INDEX);
        Check.ends("new: value of inputs 2", () -> x.value(0, 2), Check.ARGUMENT);
        Check.ends("new: set output 1", () -> x.set(1, 0, 0), Check.INDEX);
        Check.ends("new: set inputs 2", () -> x.set(0, 4, 0), Check.ARGUMENT);
        x.set(0, 2, 0);
        Check.due("new: input 0 itself", x.candidate(0, 0), 1);
    }

    /** Promise 2. */
    private static void begin() {
        CoverHouse x = withTwo(4, 65535, 1);
        Check.due("begin: 1 before", x.value(0, 15), true);
        x.begin(4, 2);
        Check.due("begin: all 0, output 0", x.value(0, 15), false);
        Check.due("begin: all 0, output 1", x.value(1, 0), false);
        Check.due("begin: no candidates", x.candidates(), 0);
        for (int inputs = 1; inputs <= 4; inputs++) {
            for (int outputs = 1; outputs <= 2; outputs++) {
                beginSo(x, inputs, outputs);
            }
        }
        x.begin(2, 1);
        x.set(0, 6, 0);
        for (int wild : WILD) {
            Check.ends("begin inputs " + wild, () -> x.begin(wild, 1), Check.ARGUMENT);
            Check.ends("begin outputs " + wild, () -> x.begin(1, wild), Check.ARGUMENT);
        }
        Check.ends("begin 0, 1", () -> x.begin(0, 1), Check.ARGUMENT);
        Check.ends("begin 4, 0", () -> x.begin(4, 0), Check.ARGUMENT);
        Check.ends("begin 4, 3", () -> x.begin(4, 3), Check.ARGUMENT);
        Check.due("begin: wrong ones change nothing", x.least(), 2);
        Check.ends("begin: nor the inputs", () -> x.value(0, 4), Check.ARGUMENT);
    }

    private static void beginSo(CoverHouse x, int inputs, int outputs) {
        x.begin(inputs, outputs);
        int last = (1 << inputs) - 1;
        Check.ends("begin: last inputs", () -> x.value(outputs - 1, last), Check.NOTHING);
        Check.ends("begin: inputs beyond", () -> x.value(0, last + 1), Check.ARGUMENT);
        Check.ends("begin: output beyond", () -> x.value(outputs, 0), Check.INDEX);
    }

    /** Promise 3. */
    private static void set() {
        CoverHouse x = with(2, 6, 0);
        Check.due("set: xor", x.least(), 2);
        x.set(0, 6, 8);
        Check.due("set: or by anything", x.parts(), 2);
        x.set(0, 8, 0);
        Check.due("set: what was 1 is 0 again", x.value(0, 1), false);
        Check.due("set: and", x.value(0, 3), true);
        x.set(0, 15, 0);
        Check.due("set: always", x.candidate(0, 0), 0);
        x.begin(4, 2);
        x.set(1, 65535, 0);
        Check.due("set: the other output is still 0", x.value(0, 3), false);
        Check.due("set: all inputs", x.value(1, 15), true);
        x.set(0, 0, 65535);
        Check.due("set: anything is of it", x.candidate(0, 1), 3);
    }

    private static void setWrongly() {
        CoverHouse x = with(2, 6, 0);
        Check.ends("set output 1 of 1", () -> x.set(1, 0, 0), Check.INDEX);
        Check.ends("set output -1", () -> x.set(-1, 0, 0), Check.INDEX);
        Check.ends("set index before argument", () -> x.set(2, 16, 16), Check.INDEX);
        Check.ends("set one beyond", () -> x.set(0, 16, 0), Check.ARGUMENT);
        Check.ends("set anything beyond", () -> x.set(0, 0, 16), Check.ARGUMENT);
        Check.ends("set one negative", () -> x.set(0, -1, 0), Check.ARGUMENT);
        Check.ends("set anything negative", () -> x.set(0, 0, Integer.MIN_VALUE), Check.ARGUMENT);
        Check.ends("set in common", () -> x.set(0, 3, 6), Check.ARGUMENT);
        Check.due("set: wrong ones change nothing", x.least(), 2);
        Check.due("set: nor the candidates", x.candidate(0, 0), 5);
        x.begin(4, 1);
        Check.ends("set 65535", () -> x.set(0, 65535, 0), Check.NOTHING);
        Check.ends("set 65536", () -> x.set(0, 65536, 0), Check.ARGUMENT);
    }

    /** Promise 4. */
    private static void candidates() {
        Check.due("candidates of xor", with(2, 6, 0).candidates(), 2);
        Check.due("candidates of always", with(4, 65535, 0).candidates(), 1);
        Check.due("candidates of a ring", with(3, 126, 0).candidates(), 6);
        Check.due("candidates of both", withTwo(3, 200, 136).candidates(), 2);
        Check.due("candidates of parity and its opposite", withTwo(4, 27030, 38505).candidates(), 16);
    }

    /** Candidates that serve nothing that is 1 are candidates all the same. */
    private static void candidatesOfAnything() {
        CoverHouse x = with(2, 0, 9);
        Check.due("candidates of anything", x.candidates(), 2);
        Check.due("candidates of anything: number", x.candidate(0, 0), 4);
        Check.due("candidates of anything: not needed", x.candidate(0, 3), 0);
        Check.due("candidates of anything: least", x.least(), 0);
    }

    /** The class holds sets of candidates in 64 bits, which rests on this: 13 each of three functions. */
    private static void mostCandidates() {
        int most = 0;
        for (int one = 0; one <= 65535; one++) {
            most = Math.max(most, with(4, one, 0).candidates());
        }
        Check.due("most candidates of one output", most, 13);
    }

    /** Promise 5: the or of input 0 and the opposite of input 2, of three. */
    private static void candidate() {
        CoverHouse x = with(3, 0xAF, 0);
        Check.due("candidate: count", x.candidates(), 2);
        int[][] due = {{1, 1, 1, 1, 0xAA}, {18, 1, 1, 1, 0x0F}};
        for (int i = 0; i < due.length; i++) {
            for (int what = 0; what <= 4; what++) {
                Check.due("candidate " + i + "," + what, x.candidate(i, what), due[i][what]);
            }
        }
        CoverHouse y = with(4, 1, 0);
        Check.due("candidate: all opposites", y.candidate(0, 0), 80);
        Check.due("candidate: four parts", y.candidate(0, 2), 4);
        Check.due("candidate: one place", y.candidate(0, 4), 1);
        CoverHouse z = with(1, 3, 0);
        Check.due("candidate: no parts", z.candidate(0, 2), 0);
        Check.due("candidate: all of two inputs", z.candidate(0, 4), 3);
    }

    /** A product of both outputs stays one beside the wider ones that are of one output each. */
    private static void candidateOfBoth() {
        CoverHouse x = withTwo(2, 10, 12);
        int[][] due = {{1, 1}, {3, 2}, {4, 3}};
        Check.due("of both: count", x.candidates(), due.length);
        for (int i = 0; i < due.length; i++) {
            Check.due("of both: number " + i, x.candidate(i, 0), due[i][0]);
            Check.due("of both: outputs " + i, x.candidate(i, 1), due[i][1]);
        }
        Check.due("of both: not needed", x.candidate(2, 3), 0);
        Check.due("of both: needed", x.candidate(0, 3), 1);
    }

    private static void needed() {
        CoverHouse ring = with(3, 126, 0);
        for (int i = 0; i < 6; i++) {
            Check.due("needed in a ring " + i, ring.candidate(i, 3), 0);
        }
        // 1 for inputs 1, 3, 6, 7: product 4 (3, 7) serves only what 12 (6, 7) and 19 (1, 3) do.
        CoverHouse x = with(3, 0xCA, 0);
        int[] due = {0, 1, 1};
        Check.due("needed: count", x.candidates(), due.length);
        for (int i = 0; i < due.length; i++) {
            Check.due("needed " + i, x.candidate(i, 3), due[i]);
        }
        // Inputs 1 may be anything now: nothing that is 1 needs product 19.
        x.set(0, 0xC8, 0x02);
        Check.due("needed: only for what is 1", x.candidate(2, 3), 0);
        Check.due("needed: as before", x.candidate(1, 3), 1);
    }

    private static void candidateWrongly() {
        CoverHouse x = with(2, 6, 0);
        Check.ends("candidate 2 of 2", () -> x.candidate(2, 0), Check.INDEX);
        Check.ends("candidate -1", () -> x.candidate(-1, 0), Check.INDEX);
        Check.ends("candidate 64", () -> x.candidate(64, 0), Check.INDEX);
        Check.ends("candidate what 5", () -> x.candidate(0, 5), Check.ARGUMENT);
        Check.ends("candidate what -1", () -> x.candidate(1, -1), Check.ARGUMENT);
        Check.ends("candidate index before argument", () -> x.candidate(2, 5), Check.INDEX);
        Check.ends("candidate of none", () -> new CoverHouse().candidate(0, 0), Check.INDEX);
    }

    /** Promises 6 to 8: the fewest candidates first. */
    private static void leastByCount() {
        CoverHouse ring = with(3, 126, 0);
        Check.due("ring: least", ring.least(), 3);
        Check.due("ring: parts", ring.parts(), 6);
        Check.due("parity: least", with(4, 27030, 0).least(), 8);
        Check.due("parity: parts", with(4, 27030, 0).parts(), 32);
        Check.due("always: least", with(4, 65535, 0).least(), 1);
        Check.due("always: parts", with(4, 65535, 0).parts(), 0);
    }

    /** Products 7 (two parts) and 9 (one) both serve inputs 5: parts go before order. */
    private static void leastByParts() {
        CoverHouse x = with(3, 0x20, 0xD2);
        Check.due("by parts: candidates", x.candidates(), 2);
        Check.due("by parts: least", x.least(), 1);
        Check.due("by parts: parts", x.parts(), 1);
        Check.due("by parts: chosen", x.chosen(0), 1);
    }

    /** One product of both outputs (4), or one of each (1 and 3): as many parts, but fewer products. */
    private static void leastByCountOfBoth() {
        CoverHouse x = new CoverHouse();
        x.begin(2, 2);
        x.set(0, 8, 2);
        x.set(1, 8, 4);
        Check.due("one of both: candidates", x.candidates(), 3);
        Check.due("one of both: least", x.least(), 1);
        Check.due("one of both: chosen", x.chosen(0), 2);
    }

    /** The ring has two covers of three; the one with the lesser first candidate is taken. */
    private static void leastByOrder() {
        CoverHouse ring = with(3, 126, 0);
        int[] due = {0, 3, 4};
        for (int k = 0; k < due.length; k++) {
            Check.due("ring: chosen " + k, ring.chosen(k), due[k]);
        }
    }

    private static void leastOfNothing() {
        CoverHouse x = with(3, 0, 255);
        Check.due("of nothing: candidates", x.candidates(), 1);
        Check.due("of nothing: least", x.least(), 0);
        Check.due("of nothing: parts", x.parts(), 0);
        Check.due("of nothing: value", x.value(0, 0), false);
        Check.ends("of nothing: chosen", () -> x.chosen(0), Check.INDEX);
    }

    /** Output 0 has input 0 or both 1 and 2, output 1 both 1 and 2: two products serve both. */
    private static void leastShares() {
        CoverHouse x = withTwo(3, 0xEA, 0xC0);
        Check.due("shares: least", x.least(), 2);
        Check.due("shares: parts", x.parts(), 3);
        Check.due("shares: number", x.candidate(x.chosen(1), 0), 12);
        Check.due("shares: of both", x.candidate(x.chosen(1), 1), 3);
    }

    private static void chosen() {
        CoverHouse x = with(2, 6, 0);
        Check.due("chosen 0", x.chosen(0), 0);
        Check.due("chosen 1", x.chosen(1), 1);
        for (int k : new int[] {Integer.MIN_VALUE, -1, 2, 3, 80, 81, Integer.MAX_VALUE}) {
            Check.ends("chosen " + k, () -> x.chosen(k), Check.INDEX);
        }
    }

    /** Promise 9: anything becomes what the least cover makes of it. */
    private static void value() {
        CoverHouse x = with(2, 2, 9);
        boolean[] due = {false, true, false, true};
        Check.due("value: x0 and anything: number", x.candidate(x.chosen(0), 0), 1);
        for (int at = 0; at < due.length; at++) {
            Check.due("value: with anything " + at, x.value(0, at), due[at]);
        }
        // The least cover of output 1 is of output 0 too, where nothing has to be 1.
        CoverHouse y = new CoverHouse();
        y.begin(2, 2);
        y.set(0, 0, 8);
        y.set(1, 8, 0);
        Check.due("value: shared with anything", y.value(0, 3), true);
        CoverHouse z = withTwo(2, 10, 12);
        Check.due("value: only candidates of the output", z.value(0, 2), false);
        Check.due("value: of the other output", z.value(1, 2), true);
    }

    private static void valueWrongly() {
        CoverHouse x = with(2, 6, 0);
        for (int wild : WILD) {
            Check.ends("value output " + wild, () -> x.value(wild, 0), Check.INDEX);
            Check.ends("value inputs " + wild, () -> x.value(0, wild), Check.ARGUMENT);
        }
        Check.ends("value output 1 of 1", () -> x.value(1, 0), Check.INDEX);
        Check.ends("value inputs 4 of 4", () -> x.value(0, 4), Check.ARGUMENT);
        Check.ends("value index before argument", () -> x.value(1, 4), Check.INDEX);
    }

    /** Promise 10: of the ring 5, 7, 11, 15, 19, 21 the last ones go first. */
    private static void thinned() {
        CoverHouse ring = with(3, 126, 0);
        Check.due("thinned: all", ring.thinned(0), 4);
        Check.due("thinned: below all", ring.thinned(Integer.MIN_VALUE), 4);
        Check.due("thinned: from the first itself", ring.thinned(5), 4);
        Check.due("thinned: without the first", ring.thinned(6), ring.thinned(7));
        Check.due("thinned: no cover", ring.thinned(20), CoverHouse.NONE);
        Check.due("thinned: none at all", ring.thinned(Integer.MAX_VALUE), CoverHouse.NONE);
        Check.due("thinned: the least is as it was", ring.least(), 3);
        Check.due("thinned: so are the candidates", ring.candidates(), 6);
        CoverHouse xor = with(2, 6, 0);
        Check.due("thinned: both needed", xor.thinned(5), 2);
        Check.due("thinned: one is missing", xor.thinned(6), CoverHouse.NONE);
    }

    private static void thinnedOfNothing() {
        Check.due("thinned: new", new CoverHouse().thinned(0), 0);
        Check.due("thinned: new, none at all", new CoverHouse().thinned(Integer.MAX_VALUE), 0);
        Check.due("thinned: all anything", with(2, 0, 9).thinned(0), 0);
    }
}
