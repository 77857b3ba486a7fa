/** Promises 1 to 3: each sentence, its edges and what it refuses. */
public final class BeginAndSetTest {
    private static final int[] WRONG_OUTPUTS_OF_ONE = Check.outside(0, 0);
    private static final int[] WRONG_OUTPUTS_OF_TWO = Check.outside(0, 1);

    public static void main(String[] args) {
        Check.run(BeginAndSetTest::newObject);
        Check.run(BeginAndSetTest::newObjectAfterOthers);
        Check.run(BeginAndSetTest::soMany);
        Check.run(BeginAndSetTest::allOutputsAreZero);
        Check.run(BeginAndSetTest::outputsThatWereGoneAreZero);
        Check.run(BeginAndSetTest::inputsRefused);
        Check.run(BeginAndSetTest::outputsRefused);
        Check.run(BeginAndSetTest::bothRefused);
        Check.run(BeginAndSetTest::setSome);
        Check.run(BeginAndSetTest::setEmptyAndFull);
        Check.run(BeginAndSetTest::setAgain);
        Check.run(BeginAndSetTest::setOneOfTwo);
        Check.run(BeginAndSetTest::noSuchOutput);
        Check.run(BeginAndSetTest::inputsThatThereArent);
        Check.run(BeginAndSetTest::highestInputs);
        Check.run(BeginAndSetTest::inCommon);
        Check.finish("BeginAndSetTest");
    }

    private static String isZero(CoverHouse x) {
        return x.candidates() + " " + x.least() + " " + x.parts() + " " + x.thinned(0) + " " + Houses.values(x);
    }

    private static void newObject() {
        Check.sentence("Promise 1", "One input, one output, which is 0.");
        CoverHouse x = new CoverHouse();
        Check.due("all answers", isZero(x), "0 0 0 0 00aaaaaaaaaaaaaaa iiiiiiiiiiiiiiiii iiiiiiiiiiiiiiiii ");
        Check.ends("candidate 0", () -> x.candidate(0, 0), Check.INDEX);
        Check.ends("chosen 0", () -> x.chosen(0), Check.INDEX);
        Check.ends("set output 1", () -> x.set(1, 0, 0), Check.INDEX);
        Check.ends("set inputs 2", () -> x.set(0, 4, 0), Check.ARGUMENT);
        x.set(0, 2, 0);
        Check.due("set: input 0 itself", x.candidate(0, 0), 1);
    }

    private static void newObjectAfterOthers() {
        Check.sentence("Promise 1", "One input, one output, which is 0.");
        CoverHouse other = Houses.fullest();
        other.least();
        CoverHouse x = new CoverHouse();
        Check.due("new beside another", isZero(x), isZero(new CoverHouse()));
        Check.due("the other one is as it was", other.candidates(), 32);
    }

    private static void soMany() {
        Check.sentence("Promise 2", "So many inputs and outputs");
        CoverHouse x = new CoverHouse();
        int[][] shapes = {{1, 1}, {1, 2}, {4, 1}, {4, 2}, {1, 1}, {3, 2}, {2, 1}, {4, 2}, {4, 1}, {2, 2}, {3, 1}};
        for (int[] shape : shapes) {
            int last = (1 << shape[0]) - 1;
            int outputs = shape[1];
            x.begin(shape[0], outputs);
            Check.ends("last of " + shape[0] + ", " + outputs, () -> x.value(outputs - 1, last), Check.NOTHING);
            Check.ends("inputs beyond " + shape[0], () -> x.value(0, last + 1), Check.ARGUMENT);
            Check.ends("output beyond " + outputs, () -> x.value(outputs, 0), Check.INDEX);
        }
    }

    private static void allOutputsAreZero() {
        Check.sentence("Promise 2", "all outputs are 0.");
        for (int inputs = 1; inputs <= 4; inputs++) {
            int all = Houses.all(inputs);
            CoverHouse asked = Houses.pair(inputs, all, 0, 1, all - 1);
            Check.due("1 before", asked.value(0, 0) && asked.value(1, 0), true);
            CoverHouse unasked = Houses.pair(inputs, all, 0, 1, all - 1);
            CoverHouse fresh = new CoverHouse();
            for (CoverHouse x : new CoverHouse[] {asked, unasked, fresh}) {
                x.begin(inputs, 2);
                Check.due(inputs + " inputs: none", x.candidates() + x.least() + x.parts() + x.thinned(81), 0);
            }
            Check.due("as if begun first, asked before", isZero(asked), isZero(fresh));
            Check.due("as if begun first, not asked before", isZero(unasked), isZero(fresh));
        }
    }

    /** An output that there was, and is again, has not kept what it was; nor have inputs. */
    private static void outputsThatWereGoneAreZero() {
        Check.sentence("Promise 2", "all outputs are 0.");
        CoverHouse x = Houses.pair(4, 0xFFFF, 0, 0x8001, 0x0FF0);
        x.begin(4, 1);
        x.begin(4, 2);
        Check.due("second output gone and back", isZero(x), isZero(Houses.pair(4, 0, 0)));
        x.set(1, 0xFFFF, 0);
        x.begin(1, 2);
        x.begin(4, 2);
        Check.due("inputs gone and back", isZero(x), isZero(Houses.pair(4, 0, 0)));
    }

    private static void inputsRefused() {
        Check.sentence("Promise 2", "IllegalArgumentException if they are not 1 .. 4");
        CoverHouse x = new CoverHouse();
        for (int inputs : Check.outside(1, 4)) {
            Check.ends(inputs + " inputs, 1 output", () -> x.begin(inputs, 1), Check.ARGUMENT);
            Check.ends(inputs + " inputs, 2 outputs", () -> x.begin(inputs, 2), Check.ARGUMENT);
        }
        for (int inputs = 1; inputs <= 4; inputs++) {
            int right = inputs;
            Check.ends(inputs + " inputs", () -> x.begin(right, 1), Check.NOTHING);
        }
    }

    private static void outputsRefused() {
        Check.sentence("Promise 2", "IllegalArgumentException if they are not 1 .. 4 and 1 .. 2.");
        CoverHouse x = new CoverHouse();
        for (int outputs : Check.outside(1, 2)) {
            Check.ends("1 input, " + outputs + " outputs", () -> x.begin(1, outputs), Check.ARGUMENT);
            Check.ends("4 inputs, " + outputs + " outputs", () -> x.begin(4, outputs), Check.ARGUMENT);
        }
        Check.ends("1 output", () -> x.begin(4, 1), Check.NOTHING);
        Check.ends("2 outputs", () -> x.begin(4, 2), Check.NOTHING);
    }

    private static void bothRefused() {
        Check.sentence("Promise 2", "IllegalArgumentException if they are not 1 .. 4 and 1 .. 2.");
        CoverHouse x = new CoverHouse();
        int[][] pairs = {{0, 0}, {0, 3}, {5, 0}, {5, 3}, {-1, -1}, {2, 4}, {Integer.MIN_VALUE, Integer.MAX_VALUE}};
        for (int[] pair : pairs) {
            Check.ends(pair[0] + ", " + pair[1], () -> x.begin(pair[0], pair[1]), Check.ARGUMENT);
        }
    }

    private static void setSome() {
        Check.sentence("Promise 3", "An output is 1 for some inputs, anything for others.");
        CoverHouse x = Houses.single(2, 6, 0);
        Check.due("either: numbers", Houses.list(x, 0), "5 7");
        x.set(0, 6, 8);
        Check.due("either or both: numbers", Houses.list(x, 0), "1 3");
        x.set(0, 6, 9);
        Check.due("always: numbers", Houses.list(x, 0), "0");
        Check.due("always: needed", x.candidate(0, 3), 1);
    }

    private static void setEmptyAndFull() {
        Check.sentence("Promise 3", "An output is 1 for some inputs, anything for others.");
        for (int inputs = 1; inputs <= 4; inputs++) {
            int all = Houses.all(inputs);
            Check.due("none", Houses.list(Houses.single(inputs, 0, 0), 0), "");
            for (int one : new int[] {0, 1, all & 0x6996, all - 1, all}) {
                CoverHouse x = Houses.single(inputs, one, all & ~one);
                Check.due("1 for " + one + ", else anything: set", Houses.list(x, 4), Integer.toString(all));
                Check.due("1 for " + one + ", else anything: least", x.least(), one == 0 ? 0 : 1);
            }
        }
    }

    /** What was set before is gone, whether it was asked for or not. */
    private static void setAgain() {
        Check.sentence("Promise 3", "An output is 1 for some inputs, anything for others.");
        CoverHouse x = Houses.single(4, 0xFFFF, 0);
        x.set(0, 0x8000, 0);
        Check.due("not asked before", Houses.answers(x), Houses.answers(Houses.single(4, 0x8000, 0)));
        x.set(0, 0, 0x0001);
        Check.due("asked before", Houses.answers(x), Houses.answers(Houses.single(4, 0, 1)));
        x.set(0, 0, 0);
        Check.due("nothing at all", Houses.answers(x), Houses.answers(Houses.single(4, 0, 0)));
    }

    private static void setOneOfTwo() {
        Check.sentence("Promise 3", "An output is 1 for some inputs, anything for others.");
        CoverHouse x = Houses.pair(2, 10, 12);
        x.least();
        x.set(1, 5, 0);
        Check.due("the second", Houses.answers(x), Houses.answers(Houses.pair(2, 10, 5)));
        x.set(0, 0, 15);
        Check.due("the first", Houses.answers(x), Houses.answers(Houses.pair(2, 0, 15, 5, 0)));
    }

    private static void noSuchOutput() {
        Check.sentence("Promise 3", "IndexOutOfBoundsException if there is no such output");
        for (int inputs = 1; inputs <= 4; inputs++) {
            CoverHouse one = Houses.single(inputs, 1, 2);
            for (int output : WRONG_OUTPUTS_OF_ONE) {
                Check.ends("output " + output + " of 1", () -> one.set(output, 1, 2), Check.INDEX);
            }
            CoverHouse two = Houses.pair(inputs, 1, 2);
            for (int output : WRONG_OUTPUTS_OF_TWO) {
                Check.ends("output " + output + " of 2", () -> two.set(output, 1, 2), Check.INDEX);
            }
            Check.ends("last output of 1", () -> one.set(0, 1, 2), Check.NOTHING);
            Check.ends("last output of 2", () -> two.set(1, 1, 2), Check.NOTHING);
        }
    }

    private static void inputsThatThereArent() {
        Check.sentence("Promise 3", "IllegalArgumentException if a set has inputs that there aren't");
        for (int inputs = 1; inputs <= 4; inputs++) {
            CoverHouse x = Houses.pair(inputs, 1, 2);
            for (int bit = 1 << inputs; bit < 32; bit++) {
                int beyond = 1 << bit;
                Check.ends(inputs + " inputs, 1 for " + bit, () -> x.set(0, beyond, 0), Check.ARGUMENT);
                Check.ends(inputs + " inputs, anything for " + bit, () -> x.set(1, 0, beyond), Check.ARGUMENT);
                Check.ends(inputs + " inputs, 1 for " + bit + " too", () -> x.set(1, beyond | 1, 2), Check.ARGUMENT);
                Check.ends(inputs + " inputs, anything for " + bit + " too", () -> x.set(0, 1, beyond | 2),
                        Check.ARGUMENT);
            }
            Check.ends("1 for -1", () -> x.set(0, -1, 0), Check.ARGUMENT);
            Check.ends("anything for -1", () -> x.set(0, 0, -1), Check.ARGUMENT);
        }
    }

    /** The last inputs that there are stand in both sets, of each output. */
    private static void highestInputs() {
        Check.sentence("Promise 3", "IllegalArgumentException if a set has inputs that there aren't");
        for (int inputs = 1; inputs <= 4; inputs++) {
            int highest = 1 << (1 << inputs) - 1;
            int all = Houses.all(inputs);
            CoverHouse x = Houses.pair(inputs, 0, 0);
            for (int o = 0; o < 2; o++) {
                int output = o;
                Check.ends("1 for the last", () -> x.set(output, highest, 0), Check.NOTHING);
                Check.ends("anything for the last", () -> x.set(output, 0, highest), Check.NOTHING);
                Check.ends("1 for all", () -> x.set(output, all, 0), Check.NOTHING);
                Check.ends("anything for all", () -> x.set(output, 0, all), Check.NOTHING);
            }
        }
    }

    private static void inCommon() {
        Check.sentence("Promise 3", "or both have some in common");
        for (int inputs = 1; inputs <= 4; inputs++) {
            int all = Houses.all(inputs);
            CoverHouse x = Houses.pair(inputs, 1, 2);
            for (int i = 0; i < 1 << inputs; i++) {
                int self = 1 << i;
                Check.ends("one alone: " + i, () -> x.set(0, self, self), Check.ARGUMENT);
                Check.ends("one of all that are 1: " + i, () -> x.set(1, all, self), Check.ARGUMENT);
                Check.ends("one of all that are anything: " + i, () -> x.set(0, self, all), Check.ARGUMENT);
            }
            Check.ends("all", () -> x.set(0, all, all), Check.ARGUMENT);
            Check.ends("all, and beyond", () -> x.set(0, -1, -1), Check.ARGUMENT);
            Check.ends("none", () -> x.set(0, 0, 0), Check.NOTHING);
        }
    }
}
