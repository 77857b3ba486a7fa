/** Promises 4 and 5: each sentence, its edges and what it refuses. */
public final class CandidatesTest {
    public static void main(String[] args) {
        Check.run(CandidatesTest::howMany);
        Check.run(CandidatesTest::none);
        Check.run(CandidatesTest::most);
        Check.run(CandidatesTest::mostOfOneOutput);
        Check.run(CandidatesTest::numbers);
        Check.run(CandidatesTest::outputs);
        Check.run(CandidatesTest::parts);
        Check.run(CandidatesTest::needed);
        Check.run(CandidatesTest::inputs);
        Check.run(CandidatesTest::noSuchCandidate);
        Check.run(CandidatesTest::noSuchCandidateOfNone);
        Check.run(CandidatesTest::anotherWhat);
        Check.finish("CandidatesTest");
    }

    private static void howMany() {
        Check.sentence("Promise 4", "How many candidates there are.");
        Check.due("always", Houses.single(4, 0xFFFF, 0).candidates(), 1);
        Check.due("either of two inputs", Houses.single(2, 6, 0).candidates(), 2);
        Check.due("the ring", Houses.single(3, Houses.RING, 0).candidates(), 6);
        Check.due("one of each and one of both", Houses.pair(2, 10, 12).candidates(), 3);
        Check.due("odd and even", Houses.pair(4, Houses.ODD, Houses.EVEN).candidates(), 16);
        CoverHouse anything = Houses.single(2, 0, 9);
        Check.due("of anything alone", Houses.list(anything, 0), "4 8");
    }

    private static void none() {
        Check.sentence("Promise 4", "How many candidates there are.");
        Check.due("new", new CoverHouse().candidates(), 0);
        for (int inputs = 1; inputs <= 4; inputs++) {
            Check.due("one output is 0", Houses.single(inputs, 0, 0).candidates(), 0);
            Check.due("both outputs are 0", Houses.pair(inputs, 0, 0).candidates(), 0);
        }
    }

    /** As many as an int has bits: no two functions of four inputs have more. */
    private static void most() {
        Check.sentence("Promise 4", "How many candidates there are.");
        CoverHouse x = Houses.fullest();
        Oracle words = new Oracle(4, 2, new int[] {Houses.FULLEST_FIRST, Houses.FULLEST_SECOND}, new int[2]);
        Check.due("count", x.candidates(), 32);
        Check.due("count by the words", words.candidates.size(), 32);
        for (int i = 0; i < 32; i++) {
            Check.due("number of " + i, x.candidate(i, 0), words.candidates.get(i));
        }
        Check.due("thinned", x.thinned(0), words.thinned(0));
        Check.due("least", x.least(), words.least.length);
    }

    /** The class holds sets of candidates in 64 bits, which rests on this: 13 each of three functions. */
    private static void mostOfOneOutput() {
        Check.sentence("Promise 4", "How many candidates there are.");
        int most = 0;
        for (int one = 0; one <= 0xFFFF; one++) {
            most = Math.max(most, Houses.single(4, one, 0).candidates());
        }
        Check.due("most of one output", most, 13);
    }

    private static void numbers() {
        Check.sentence("Promise 5", "0 its product's number");
        Check.due("the least there is", Houses.list(Houses.single(4, 0xFFFF, 0), 0), "0");
        Check.due("the greatest there is", Houses.list(Houses.single(4, 1, 0), 0), "80");
        Check.due("the greatest of one input", Houses.list(Houses.single(1, 1, 0), 0), "2");
        Check.due("input 0, or not input 2", Houses.list(Houses.single(3, 0xAF, 0), 0), "1 18");
    }

    private static void outputs() {
        Check.sentence("Promise 5", "1 of which outputs it is (a bit each)");
        Check.due("the only one", Houses.list(Houses.single(3, 0xAF, 0), 1), "1 1");
        Check.due("each and both", Houses.list(Houses.pair(2, 10, 12), 1), "1 2 3");
        Check.due("second alone", Houses.list(Houses.pair(1, 0, 3), 1), "2");
        Check.due("both, where one may be anything", Houses.list(Houses.pair(1, 0, 3, 3, 0), 1), "3");
    }

    private static void parts() {
        Check.sentence("Promise 5", "2 how many parts it has");
        Check.due("none", Houses.list(Houses.single(4, 0xFFFF, 0), 2), "0");
        Check.due("all", Houses.list(Houses.single(4, 0x8001, 0), 2), "4 4");
        Check.due("one of one", Houses.list(Houses.single(1, 1, 0), 2), "1");
        Check.due("one and two", Houses.list(Houses.pair(2, 10, 12), 2), "1 1 2");
    }

    private static void needed() {
        Check.sentence("Promise 5", "3 whether it is needed (1 or 0)");
        Check.due("all", Houses.list(Houses.single(2, 6, 0), 3), "1 1");
        Check.due("none of a ring", Houses.list(Houses.single(3, Houses.RING, 0), 3), "0 0 0 0 0 0");
        Check.due("none of anything", Houses.list(Houses.single(2, 0, 9), 3), "0 0");
        Check.due("some", Houses.list(Houses.pair(2, 10, 12), 3), "1 1 0");
    }

    private static void inputs() {
        Check.sentence("Promise 5", "4 for which inputs it is 1 (a bit each)");
        for (int inputs = 1; inputs <= 4; inputs++) {
            int all = Houses.all(inputs);
            int last = 1 << (1 << inputs) - 1;
            Check.due(inputs + " inputs: all", Houses.list(Houses.single(inputs, all, 0), 4), Integer.toString(all));
            Check.due(inputs + " inputs: last", Houses.list(Houses.single(inputs, last, 0), 4), Integer.toString(last));
            Check.due(inputs + " inputs: first", Houses.list(Houses.single(inputs, 1, 0), 4), "1");
        }
        Check.due("for which it may be anything too", Houses.list(Houses.single(2, 8, 2), 4), "10");
        Check.due("for which the other output is 0 too", Houses.list(Houses.pair(2, 10, 12), 4), "10 12 8");
    }

    private static void noSuchCandidate() {
        Check.sentence("Promise 5", "IndexOutOfBoundsException if there is none such");
        CoverHouse[] some = {
            Houses.single(1, 3, 0), Houses.single(2, 6, 0), Houses.single(3, Houses.RING, 0), Houses.fullest()
        };
        for (CoverHouse x : some) {
            int count = x.candidates();
            Check.ends("the last of " + count, () -> x.candidate(count - 1, 0), Check.NOTHING);
            for (int i : Check.outside(0, count - 1)) {
                Check.ends(i + " of " + count, () -> x.candidate(i, 4), Check.INDEX);
            }
        }
    }

    /** Also where there were candidates before. */
    private static void noSuchCandidateOfNone() {
        Check.sentence("Promise 5", "IndexOutOfBoundsException if there is none such");
        CoverHouse x = Houses.single(2, 6, 0);
        x.candidate(1, 0);
        x.set(0, 8, 0);
        Check.ends("second of one, of two before", () -> x.candidate(1, 0), Check.INDEX);
        x.begin(2, 1);
        Check.ends("first of none, of one before", () -> x.candidate(0, 0), Check.INDEX);
        for (int i : Check.outside(1, 0)) {
            Check.ends(i + " of a new object", () -> new CoverHouse().candidate(i, 0), Check.INDEX);
        }
    }

    private static void anotherWhat() {
        Check.sentence("Promise 5", "IllegalArgumentException for another what.");
        CoverHouse x = Houses.single(2, 6, 0);
        for (int what : Check.outside(0, 4)) {
            Check.ends("what " + what + " of the first", () -> x.candidate(0, what), Check.ARGUMENT);
            Check.ends("what " + what + " of the last", () -> x.candidate(1, what), Check.ARGUMENT);
        }
        for (int what = 0; what <= 4; what++) {
            int right = what;
            Check.ends("what " + what, () -> x.candidate(1, right), Check.NOTHING);
        }
    }
}
