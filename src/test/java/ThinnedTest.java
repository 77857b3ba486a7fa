/** Promise 10: each sentence and its edges; it refuses nothing. */
public final class ThinnedTest {
    public static void main(String[] args) {
        Check.run(ThinnedTest::atLeastAsTold);
        Check.run(ThinnedTest::byNumberOfTheProduct);
        Check.run(ThinnedTest::left);
        Check.run(ThinnedTest::noCover);
        Check.run(ThinnedTest::emptyCover);
        Check.run(ThinnedTest::farNumbers);
        Check.run(ThinnedTest::changesNothing);
        Check.finish("ThinnedTest");
    }

    private static void atLeastAsTold() {
        Check.sentence("Promise 10", "Takes as a cover all candidates whose product's number is at least as told");
        CoverHouse always = Houses.single(4, 0xFFFF, 0);
        Check.due("product 0 from 0", always.thinned(0), 1);
        Check.due("product 0 from 1", always.thinned(1), CoverHouse.NONE);
        CoverHouse greatest = Houses.single(4, 1, 0);
        Check.due("product 80 from 80", greatest.thinned(80), 1);
        Check.due("product 80 from 81", greatest.thinned(81), CoverHouse.NONE);
        CoverHouse either = Houses.single(2, 6, 0);
        Check.due("products 5, 7 from 5", either.thinned(5), 2);
        Check.due("products 5, 7 from 6", either.thinned(6), CoverHouse.NONE);
    }

    /** Not by that of the candidate: there are six, the last of them 5. */
    private static void byNumberOfTheProduct() {
        Check.sentence("Promise 10", "Takes as a cover all candidates whose product's number is at least as told");
        CoverHouse ring = Houses.single(3, Houses.RING, 0);
        Check.due("numbers", Houses.list(ring, 0), "5 7 11 15 19 21");
        for (int from = 0; from <= 5; from++) {
            Check.due("from " + from, ring.thinned(from), 4);
        }
        Check.due("without the first", ring.thinned(6), 3);
        Check.due("from the second", ring.thinned(7), 3);
        Check.due("without the first two", ring.thinned(8), 4);
        Check.due("from the third", ring.thinned(11), 4);
        Check.due("without the first three", ring.thinned(12), CoverHouse.NONE);
    }

    private static void left() {
        Check.sentence("Promise 10", "how many are left without the redundant ones");
        Check.due("all", Houses.pair(4, Houses.ODD, Houses.EVEN).thinned(0), 16);
        Check.due("all but one", Houses.pair(2, 10, 12).thinned(0), 2);
        Check.due("more than the least has", Houses.single(3, Houses.RING, 0).thinned(0), 4);
        Check.due("one of two", Houses.single(2, 8, 6).thinned(0), 1);
        Check.due("one of two, if only one is taken", Houses.single(2, 8, 6).thinned(2), 1);
    }

    private static void noCover() {
        Check.sentence("Promise 10", "NONE if that is no cover.");
        Check.due("one too few", Houses.single(2, 14, 0).thinned(2), CoverHouse.NONE);
        Check.due("of the second output too few", Houses.pair(2, 12, 10).thinned(2), CoverHouse.NONE);
        Check.due("of the first output too few", Houses.pair(2, 10, 12).thinned(2), CoverHouse.NONE);
        for (int inputs = 1; inputs <= 4; inputs++) {
            Check.due("none at all", Houses.single(inputs, 1, 0).thinned(81), CoverHouse.NONE);
            Check.due("none of the second", Houses.pair(inputs, 0, 1).thinned(81), CoverHouse.NONE);
        }
    }

    /** Where nothing is 1, no candidates are a cover, and all are redundant. */
    private static void emptyCover() {
        Check.sentence("Promise 10", "how many are left without the redundant ones");
        int[] froms = {Integer.MIN_VALUE, -1, 0, 1, 80, 81, Integer.MAX_VALUE};
        for (int from : froms) {
            Check.due("new, from " + from, new CoverHouse().thinned(from), 0);
            Check.due("all anything, from " + from, Houses.single(4, 0, 0xFFFF).thinned(from), 0);
            Check.due("some anything, from " + from, Houses.pair(2, 0, 9, 0, 6).thinned(from), 0);
        }
    }

    private static void farNumbers() {
        Check.sentence("Promise 10", "Takes as a cover all candidates whose product's number is at least as told");
        CoverHouse x = Houses.fullest();
        int all = x.thinned(0);
        for (int from : Check.outside(0, 80)) {
            Check.due("from " + from, x.thinned(from), from < 0 ? all : CoverHouse.NONE);
        }
    }

    private static void changesNothing() {
        Check.sentence("Promise 10", "Takes as a cover all candidates");
        CoverHouse ring = Houses.single(3, Houses.RING, 0);
        String before = Houses.answers(ring);
        ring.thinned(6);
        ring.thinned(81);
        Check.due("all answers", Houses.answers(ring), before);
    }
}
