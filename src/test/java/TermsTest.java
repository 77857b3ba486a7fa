/** Terms: each sentence that names an edge, by examples worked out by hand. */
public final class TermsTest {
    private static final String INPUTS = "Terms 1";
    private static final String PRODUCTS = "Terms 2";
    private static final String COVERS = "Terms, below";

    public static void main(String[] args) {
        Check.run(TermsTest::inputsAndOutputs);
        Check.run(TermsTest::inputsAsNumbers);
        Check.run(TermsTest::setsAsNumbers);
        Check.run(TermsTest::anything);
        Check.run(TermsTest::noneInCommon);
        Check.run(TermsTest::zeroForTheOthers);
        Check.run(TermsTest::products);
        Check.run(TermsTest::productNumbers);
        Check.run(TermsTest::parts);
        Check.run(TermsTest::ofAnOutput);
        Check.run(TermsTest::ofSomeOutput);
        Check.run(TermsTest::withAPartLeftOut);
        Check.run(TermsTest::ofFewer);
        Check.run(TermsTest::numberedFromZero);
        Check.run(TermsTest::needed);
        Check.run(TermsTest::neededByAnOutput);
        Check.run(TermsTest::cover);
        Check.run(TermsTest::fewestCandidates);
        Check.run(TermsTest::fewestParts);
        Check.run(TermsTest::leastFirst);
        Check.run(TermsTest::leastSecond);
        Check.run(TermsTest::ofNoCandidates);
        Check.run(TermsTest::fromLastToFirst);
        Check.run(TermsTest::takenAwayBefore);
        Check.finish("TermsTest");
    }

    private static void inputsAndOutputs() {
        Check.sentence(INPUTS, "There are one to four INPUTS and one or two OUTPUTS.");
        String[] firsts = {"00aaaaaaaaaaaaaaa", "0000aaaaaaaaaaaaa", "00000000aaaaaaaaa", "0000000000000000a"};
        String none = "iiiiiiiiiiiiiiiii";
        for (int inputs = 1; inputs <= 4; inputs++) {
            CoverHouse x = new CoverHouse();
            String first = firsts[inputs - 1];
            x.begin(inputs, 1);
            Check.due(inputs + " inputs, 1 output", Houses.values(x), first + " " + none + " " + none + " ");
            x.begin(inputs, 2);
            Check.due(inputs + " inputs, 2 outputs", Houses.values(x), first + " " + first + " " + none + " ");
        }
    }

    private static void inputsAsNumbers() {
        Check.sentence(INPUTS, "INPUTS are told as a number, bit k for input k.");
        int[] whereInputIsOne = {0xAAAA, 0xCCCC, 0xF0F0, 0xFF00};
        for (int k = 0; k < 4; k++) {
            CoverHouse x = Houses.single(4, whereInputIsOne[k], 0);
            Check.due("product of input " + k, Houses.list(x, 2), "1");
            for (int at = 0; at < 16; at++) {
                Check.due("input " + k + " of inputs " + at, x.value(0, at), (at >> k & 1) == 1);
            }
        }
    }

    private static void setsAsNumbers() {
        Check.sentence(INPUTS, "a set of inputs for which it is 1 (a number, bit i for inputs i)");
        for (int inputs = 1; inputs <= 4; inputs++) {
            for (int i = 0; i < 1 << inputs; i++) {
                CoverHouse x = Houses.single(inputs, 1 << i, 0);
                for (int at = 0; at < 1 << inputs; at++) {
                    Check.due(inputs + " inputs, bit " + i + " at " + at, x.value(0, at), at == i);
                }
            }
        }
    }

    private static void anything() {
        Check.sentence(INPUTS, "and one for which it is ANYTHING");
        for (int inputs = 1; inputs <= 4; inputs++) {
            for (int i = 0; i < 1 << inputs; i++) {
                CoverHouse x = Houses.single(inputs, 0, 1 << i);
                Check.due("a product may be 1 there", Houses.list(x, 4), Integer.toString(1 << i));
                Check.due("none has to be", x.least(), 0);
            }
        }
    }

    private static void noneInCommon() {
        Check.sentence(INPUTS, "both have none in common");
        CoverHouse x = new CoverHouse();
        for (int inputs = 1; inputs <= 4; inputs++) {
            x.begin(inputs, 1);
            for (int i = 0; i < 1 << inputs; i++) {
                int self = 1 << i;
                int others = Houses.all(inputs) & ~self;
                Check.ends("in common " + i, () -> x.set(0, self, self), Check.ARGUMENT);
                Check.ends("none in common " + i, () -> x.set(0, self, others), Check.NOTHING);
                Check.ends("in common of all " + i, () -> x.set(0, others | self, self), Check.ARGUMENT);
            }
        }
    }

    private static void zeroForTheOthers() {
        Check.sentence(INPUTS, "it is 0 for the others");
        Check.due("all are others", Houses.single(4, 0, 0).candidates(), 0);
        for (int i = 0; i < 16; i++) {
            int others = Houses.all(4) & ~(1 << i);
            CoverHouse x = Houses.single(4, others & 0x5A5A, others & 0xA5A5);
            Check.due("only " + i + " is another: candidates", x.candidates(), 4);
            for (int c = 0; c < 4; c++) {
                Check.due("only " + i + " is another: product " + c, x.candidate(c, 4) & 1 << i, 0);
            }
        }
    }

    /** Number and inputs for which it is 1: nothing, each input, each opposite, all, all opposites. */
    private static void products() {
        Check.sentence(PRODUCTS, "A PRODUCT has of each input itself, its opposite, or nothing; "
                + "it is 1 for inputs of which all are so.");
        int[][] due = {
            {0, 0xFFFF}, {1, 0xAAAA}, {2, 0x5555}, {3, 0xCCCC}, {6, 0x3333}, {9, 0xF0F0}, {18, 0x0F0F},
            {27, 0xFF00}, {54, 0x00FF}, {40, 0x8000}, {80, 0x0001}, {41, 0x4000}, {79, 0x0002}, {28, 0xAA00},
        };
        for (int[] product : due) {
            CoverHouse x = Houses.single(4, product[1], 0);
            Check.due("product of set " + product[1], Houses.list(x, 0), Integer.toString(product[0]));
            Check.due("set of product " + product[0], Houses.list(x, 4), Integer.toString(product[1]));
        }
    }

    /** Every product there is, by its parts: 0 nothing, 1 itself, 2 the opposite. */
    private static void productNumbers() {
        Check.sentence(PRODUCTS, "Its NUMBER: of each input 3 to the power of its own number "
                + "times 1 (itself), 2 (its opposite), 0.");
        int[] powers = {1, 3, 9, 27, 81};
        for (int inputs = 1; inputs <= 4; inputs++) {
            Oracle words = new Oracle(inputs, 1, new int[1], new int[1]);
            for (int p = 0; p < powers[inputs]; p++) {
                CoverHouse x = Houses.single(inputs, words.onesOf(p), 0);
                Check.due(inputs + " inputs, product " + p, Houses.list(x, 0), Integer.toString(p));
            }
        }
    }

    private static void parts() {
        Check.sentence(PRODUCTS, "Its PARTS are the inputs that it has.");
        int[][] due = {{0xFFFF, 0}, {0xAAAA, 1}, {0x00FF, 1}, {0x8888, 2}, {0x0101, 3}, {0x8000, 4}, {0x0001, 4}};
        for (int[] set : due) {
            CoverHouse x = Houses.single(4, set[0], 0);
            Check.due("parts of set " + set[0], Houses.list(x, 2), Integer.toString(set[1]));
        }
        Check.due("parts of one input", Houses.list(Houses.single(1, 2, 0), 2), "1");
        Check.due("parts of nothing", Houses.list(Houses.single(1, 3, 0), 2), "0");
    }

    private static void ofAnOutput() {
        Check.sentence(PRODUCTS, "It is OF an output if it is 1 for no inputs for which that is 0.");
        Check.due("0 for none", Houses.list(Houses.single(3, 255, 0), 0), "0");
        Check.due("anything is not 0", Houses.list(Houses.single(3, 1, 254), 0), "0");
        Check.due("0 for one", Houses.list(Houses.single(3, 127, 0), 0), "2 6 18");
        Check.due("0 for all but one", Houses.list(Houses.single(3, 1, 0), 0), "26");
        CoverHouse both = Houses.pair(3, 255, 127);
        Check.due("0 for one of the second: numbers", Houses.list(both, 0), "0 2 6 18");
        Check.due("0 for one of the second: outputs", Houses.list(both, 1), "1 3 3 3");
    }

    private static void ofSomeOutput() {
        Check.sentence(PRODUCTS, "A CANDIDATE is a product that is of some output");
        Check.due("of none", Houses.pair(4, 0, 0).candidates(), 0);
        Check.due("of the first", Houses.list(Houses.pair(4, 0x8000, 0), 1), "1");
        Check.due("of the second", Houses.list(Houses.pair(4, 0, 0x8000), 1), "2");
        Check.due("of both", Houses.list(Houses.pair(4, 0x8000, 0x8000), 1), "3");
        Check.due("though it need not be 1", Houses.list(Houses.pair(4, 0, 0x8000, 0, 0), 0), "40");
    }

    private static void withAPartLeftOut() {
        Check.sentence(PRODUCTS, "and with any one of its parts left out would be of fewer");
        Check.due("no parts to leave out", Houses.list(Houses.single(4, 0xFFFF, 0), 0), "0");
        Check.due("one of two parts may go", Houses.list(Houses.single(2, 10, 0), 0), "1");
        Check.due("neither of two parts may go", Houses.list(Houses.single(2, 8, 0), 0), "4");
        Check.due("one may go where anything is", Houses.list(Houses.single(2, 8, 2), 0), "1");
        Check.due("either may go, not both", Houses.list(Houses.single(2, 14, 0), 0), "1 3");
        Check.due("no part may go of any", Houses.single(4, Houses.ODD, 0).candidates(), 8);
    }

    /** A product of both outputs stays a candidate beside wider ones that are of one output. */
    private static void ofFewer() {
        Check.sentence(PRODUCTS, "would be of fewer");
        CoverHouse inside = Houses.pair(2, 15, 10);
        Check.due("one inside the other: numbers", Houses.list(inside, 0), "0 1");
        Check.due("one inside the other: outputs", Houses.list(inside, 1), "1 3");
        CoverHouse across = Houses.pair(2, 10, 12);
        Check.due("one across the other: numbers", Houses.list(across, 0), "1 3 4");
        Check.due("one across the other: outputs", Houses.list(across, 1), "1 2 3");
        CoverHouse alike = Houses.pair(2, 10, 10);
        Check.due("both alike: numbers", Houses.list(alike, 0), "1");
        Check.due("both alike: outputs", Houses.list(alike, 1), "3");
        Check.due("nothing in common", Houses.list(Houses.pair(2, 10, 5), 1), "1 2");
    }

    private static void numberedFromZero() {
        Check.sentence(PRODUCTS, "candidates are numbered from 0 by their products' numbers");
        Check.due("one output", Houses.list(Houses.single(3, 231, 0), 0), "5 7 10 12 20 24");
        Check.due("of the second before of the first", Houses.list(Houses.pair(2, 12, 10), 1), "2 1 3");
        CoverHouse x = Houses.fullest();
        for (int i = 1; i < 32; i++) {
            Check.due(i + " after the one before it", x.candidate(i, 0) > x.candidate(i - 1, 0), true);
        }
    }

    /** Of inputs 1, 3, 6, 7: product 4 (3, 7) serves only what 12 (6, 7) and 19 (1, 3) do. */
    private static void needed() {
        Check.sentence(COVERS, "A candidate is NEEDED if for some output and inputs, for which that is 1, "
                + "no other candidate of that output is 1.");
        Check.due("numbers", Houses.list(Houses.single(3, 0xCA, 0), 0), "4 12 19");
        Check.due("two of three", Houses.list(Houses.single(3, 0xCA, 0), 3), "0 1 1");
        Check.due("not for anything", Houses.list(Houses.single(3, 0xC8, 0x02), 3), "0 1 0");
        Check.due("none in a ring", Houses.list(Houses.single(3, Houses.RING, 0), 3), "0 0 0 0 0 0");
        Check.due("the only one", Houses.list(Houses.single(1, 3, 0), 3), "1");
        Check.due("the only one, of anything", Houses.list(Houses.single(1, 0, 3), 3), "0");
    }

    /** Product 3 is 1 wherever 4 is, but is of one output alone: the other one needs 4. */
    private static void neededByAnOutput() {
        Check.sentence(COVERS, "no other candidate of that output is 1");
        CoverHouse x = Houses.pair(2, 8, 12);
        Check.due("numbers", Houses.list(x, 0), "3 4");
        Check.due("needed by the first output alone", Houses.list(x, 3), "1 1");
        Check.due("needed by the second output alone", Houses.list(Houses.pair(2, 12, 8), 3), "1 1");
        Check.due("needed by neither", Houses.list(Houses.pair(2, 10, 12), 3), "1 1 0");
    }

    private static void cover() {
        Check.sentence(COVERS, "A COVER is a set of candidates such that for each output and all inputs "
                + "for which it is 1 some of them that is of the output is 1.");
        // Product 3 alone is 1 for all that is due, but not of output 0.
        CoverHouse x = Houses.pair(2, 8, 2, 12, 2);
        Check.due("numbers", Houses.list(x, 0), "1 3");
        Check.due("outputs", Houses.list(x, 1), "3 2");
        Check.due("not of the output", x.thinned(2), CoverHouse.NONE);
        Check.due("least", Houses.chosen(x), "0 1");
        Check.due("all but one of the inputs", Houses.single(2, 6, 0).thinned(6), CoverHouse.NONE);
        Check.due("not the first output", Houses.pair(2, 10, 5).thinned(2), CoverHouse.NONE);
        Check.due("not the second output", Houses.pair(2, 5, 10).thinned(2), CoverHouse.NONE);
        Check.due("nothing is 1", Houses.pair(2, 0, 15, 0, 0).thinned(81), 0);
    }

    /** A cover of six with 10 parts is left for one of five with 11. */
    private static void fewestCandidates() {
        Check.sentence(COVERS, "The LEAST one has the fewest candidates");
        CoverHouse x = Houses.pair(3, 183, 222);
        Check.due("numbers", Houses.list(x, 0), "3 6 10 11 13 17 19 20 23 25");
        Check.due("chosen", Houses.chosen(x), "0 2 5 7 9");
        Check.due("parts", x.parts(), 11);
        Check.due("the ring's three of six", Houses.single(3, Houses.RING, 0).least(), 3);
        Check.due("one of both for two", Houses.chosen(Houses.pair(2, 8, 2, 8, 4)), "2");
    }

    /** Products 7 (two parts) and 9 (one part) both serve inputs 5. */
    private static void fewestParts() {
        Check.sentence(COVERS, "of these, the fewest parts in all");
        CoverHouse x = Houses.single(3, 0x20, 0xD2);
        Check.due("numbers", Houses.list(x, 0), "7 9");
        Check.due("chosen", Houses.chosen(x), "1");
        Check.due("parts", x.parts(), 1);
    }

    /** The other cover is 1 3 4, whose last candidate is the lesser one. */
    private static void leastFirst() {
        Check.sentence(COVERS, "of these, the least first candidate");
        Check.due("two outputs", Houses.chosen(Houses.pair(2, 11, 13)), "0 2 5");
        Check.due("one output", Houses.chosen(Houses.single(3, 231, 0)), "0 2 5");
        Check.due("the ring", Houses.chosen(Houses.single(3, Houses.RING, 0)), "0 3 4");
    }

    /** The other covers are 0 2, 1 4 and 2 4. */
    private static void leastSecond() {
        Check.sentence(COVERS, "then the least second one, and so on");
        Check.due("the second decides", Houses.chosen(Houses.pair(2, 4, 9, 2, 9)), "0 1");
        Check.due("the fifth decides", Houses.chosen(Houses.single(4, 48279, 0)), "0 1 2 3 4 9");
    }

    /** That none is NEEDED is not enough: in a ring none is, but some have to be taken. */
    private static void ofNoCandidates() {
        Check.sentence(COVERS, "(Of no candidates if none is needed.)");
        CoverHouse[] some = {
            new CoverHouse(), Houses.single(4, 0, 0), Houses.single(4, 0, 0xFFFF), Houses.single(2, 0, 9),
            Houses.pair(4, 0, 0xFFFF, 0, 0xFFFF), Houses.pair(4, 0, 0, 0, 1),
        };
        for (int i = 0; i < some.length; i++) {
            Check.due("least of " + i, some[i].least(), 0);
            Check.due("parts of " + i, some[i].parts(), 0);
            Check.due("thinned of " + i, some[i].thinned(0), 0);
        }
        Check.due("a ring", Houses.single(3, Houses.RING, 0).least(), 3);
    }

    /** From the first to the last 4 would be left of 7, 10, 12, 20 and 24. */
    private static void fromLastToFirst() {
        Check.sentence(COVERS, "gone through from its last candidate to its first one");
        Check.due("one output", Houses.single(3, 231, 0).thinned(6), 3);
        Check.due("two outputs", Houses.pair(2, 7, 14).thinned(2), 3);
        Check.due("more left than the other way", Houses.pair(4, 47763, 38903).thinned(0), 8);
    }

    /** Of the ring each one alone could go. */
    private static void takenAwayBefore() {
        Check.sentence(COVERS, "those without which it would still be one (with those taken away that were so before)");
        Check.due("a ring", Houses.single(3, Houses.RING, 0).thinned(0), 4);
        Check.due("the only one", Houses.single(1, 2, 0).thinned(0), 1);
        Check.due("either of two for one place", Houses.single(2, 8, 6).thinned(0), 1);
    }
}
