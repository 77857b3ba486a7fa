/** Promises 6 to 9: each sentence, its edges and what it refuses. */
public final class LeastTest {
    public static void main(String[] args) {
        Check.run(LeastTest::least);
        Check.run(LeastTest::parts);
        Check.run(LeastTest::leastAndPartsAfterAChange);
        Check.run(LeastTest::chosen);
        Check.run(LeastTest::noSuchChosen);
        Check.run(LeastTest::noneChosen);
        Check.run(LeastTest::value);
        Check.run(LeastTest::valueOfAnything);
        Check.run(LeastTest::valueOfTheOutput);
        Check.run(LeastTest::noSuchOutput);
        Check.run(LeastTest::noSuchInputs);
        Check.finish("LeastTest");
    }

    private static void least() {
        Check.sentence("Promise 6", "How many candidates the least cover has.");
        Check.due("none", Houses.single(4, 0, 0xFFFF).least(), 0);
        Check.due("one of no parts", Houses.single(4, 0xFFFF, 0).least(), 1);
        Check.due("one for both", Houses.pair(4, 0x8000, 0x8000).least(), 1);
        Check.due("three of six", Houses.single(3, Houses.RING, 0).least(), 3);
        Check.due("the most of one output", Houses.single(4, Houses.ODD, 0).least(), 8);
        Check.due("the most of two outputs", Houses.pair(4, Houses.ODD, Houses.EVEN).least(), 16);
        Check.due("shared", Houses.pair(4, Houses.ODD, Houses.ODD).least(), 8);
    }

    private static void parts() {
        Check.sentence("Promise 7", "How many parts all of the least cover have.");
        Check.due("of none", Houses.single(4, 0, 0xFFFF).parts(), 0);
        Check.due("of one without parts", Houses.single(4, 0xFFFF, 0).parts(), 0);
        Check.due("of a shared one once", Houses.pair(4, 0x8000, 0x8000).parts(), 4);
        Check.due("of three of six", Houses.single(3, Houses.RING, 0).parts(), 6);
        Check.due("the most of two outputs", Houses.pair(4, Houses.ODD, Houses.EVEN).parts(), 64);
        Check.due("input 0, or 1 and 2 as the second output", Houses.pair(3, 0xEA, 0xC0).parts(), 3);
    }

    private static void leastAndPartsAfterAChange() {
        Check.sentence("Promise 6", "How many candidates the least cover has.");
        CoverHouse x = Houses.pair(4, Houses.ODD, Houses.EVEN);
        Check.due("before", x.least(), 16);
        x.set(1, 0, Houses.EVEN);
        Check.due("after a set: least", x.least(), 8);
        Check.due("after a set: parts", x.parts(), 32);
        x.begin(1, 1);
        Check.due("after begin: least", x.least(), 0);
        Check.due("after begin: parts", x.parts(), 0);
    }

    private static void chosen() {
        Check.sentence("Promise 8", "The k-th candidate of the least cover.");
        Check.due("all", Houses.chosen(Houses.single(2, 6, 0)), "0 1");
        Check.due("some", Houses.chosen(Houses.single(3, Houses.RING, 0)), "0 3 4");
        Check.due("the last alone", Houses.chosen(Houses.single(3, 0x20, 0xD2)), "1");
        Check.due("the most", Houses.chosen(Houses.pair(4, Houses.ODD, Houses.EVEN)),
                "0 1 2 3 4 5 6 7 8 9 10 11 12 13 14 15");
    }

    private static void noSuchChosen() {
        Check.sentence("Promise 8", "IndexOutOfBoundsException if there is none such.");
        CoverHouse[] some = {
            Houses.single(1, 3, 0), Houses.single(2, 6, 0), Houses.single(3, Houses.RING, 0), Houses.fullest(),
            Houses.pair(4, Houses.ODD, Houses.EVEN)
        };
        for (CoverHouse x : some) {
            int least = x.least();
            Check.ends("the last of " + least, () -> x.chosen(least - 1), Check.NOTHING);
            for (int k : Check.outside(0, least - 1)) {
                Check.ends(k + " of " + least, () -> x.chosen(k), Check.INDEX);
            }
        }
    }

    /** Also where there are candidates, and where some were chosen before. */
    private static void noneChosen() {
        Check.sentence("Promise 8", "IndexOutOfBoundsException if there is none such.");
        CoverHouse x = Houses.single(2, 6, 0);
        x.chosen(1);
        x.set(0, 0, 6);
        Check.due("candidates", x.candidates(), 2);
        for (int k : Check.outside(1, 0)) {
            Check.ends(k + " of none", () -> x.chosen(k), Check.INDEX);
        }
        Check.ends("first of a new object", () -> new CoverHouse().chosen(0), Check.INDEX);
    }

    private static void value() {
        Check.sentence("Promise 9", "What the least cover makes of an output for inputs");
        for (int one : new int[] {0, 1, Houses.ODD, 0x8000, 0x7FFF, 0xFFFF}) {
            CoverHouse x = Houses.pair(4, one, 0xFFFF & ~one);
            for (int at = 0; at < 16; at++) {
                Check.due(one + " at " + at, x.value(0, at), (one >> at & 1) == 1);
                Check.due("not " + one + " at " + at, x.value(1, at), (one >> at & 1) == 0);
            }
        }
    }

    private static void valueOfAnything() {
        Check.sentence("Promise 9", "What the least cover makes of an output for inputs");
        String rest = "aaaaaaaaaaaaa iiiiiiiiiiiiiiiii iiiiiiiiiiiiiiiii ";
        Check.due("1 where it may be, or not", Houses.values(Houses.single(2, 2, 9)), "0101" + rest);
        Check.due("0 where none is needed", Houses.values(Houses.single(2, 0, 15)), "0000" + rest);
        Check.due("1 where all may be", Houses.values(Houses.single(2, 1, 14)), "1111" + rest);
    }

    /** A candidate makes 1 of each output that it is of, chosen for it or not, and of no other. */
    private static void valueOfTheOutput() {
        Check.sentence("Promise 9", "whether some candidate of it, that is of the output, is 1");
        CoverHouse shared = Houses.pair(2, 0, 8, 8, 0);
        Check.due("chosen for the other output", shared.value(0, 3), true);
        CoverHouse apart = Houses.pair(2, 10, 12);
        Check.due("of the other output alone", apart.value(0, 2), false);
        Check.due("of this output", apart.value(1, 2), true);
        Check.due("the other way round", apart.value(1, 1), false);
        CoverHouse unchosen = Houses.pair(2, 2, 8, 0, 8);
        Check.due("of both, but not chosen", unchosen.value(1, 3), false);
        Check.due("chosen, of the first alone", unchosen.value(0, 3), true);
    }

    private static void noSuchOutput() {
        Check.sentence("Promise 9", "IndexOutOfBoundsException if there is no such output");
        CoverHouse one = Houses.single(4, 0xFFFF, 0);
        for (int output : Check.outside(0, 0)) {
            Check.ends("output " + output + " of 1", () -> one.value(output, 0), Check.INDEX);
        }
        CoverHouse two = Houses.pair(4, 0xFFFF, 0xFFFF);
        for (int output : Check.outside(0, 1)) {
            Check.ends("output " + output + " of 2", () -> two.value(output, 15), Check.INDEX);
        }
        two.begin(4, 1);
        Check.ends("an output that there was", () -> two.value(1, 0), Check.INDEX);
        Check.ends("output 1 of a new object", () -> new CoverHouse().value(1, 0), Check.INDEX);
    }

    private static void noSuchInputs() {
        Check.sentence("Promise 9", "IllegalArgumentException if there are no such inputs.");
        for (int inputs = 1; inputs <= 4; inputs++) {
            CoverHouse x = Houses.pair(inputs, Houses.all(inputs), 1);
            int last = (1 << inputs) - 1;
            for (int at : Check.outside(0, last)) {
                Check.ends("first output, inputs " + at, () -> x.value(0, at), Check.ARGUMENT);
                Check.ends("last output, inputs " + at, () -> x.value(1, at), Check.ARGUMENT);
            }
            Check.ends("the first inputs", () -> x.value(1, 0), Check.NOTHING);
            Check.ends("the last inputs of " + inputs, () -> x.value(1, last), Check.NOTHING);
        }
    }
}
