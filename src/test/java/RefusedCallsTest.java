/** The closing sentences of Terms: what a call that throws leaves, and which exception goes first. */
public final class RefusedCallsTest {
    public static void main(String[] args) {
        Check.run(RefusedCallsTest::changesNothingUnasked);
        Check.run(RefusedCallsTest::changesNothingAsked);
        Check.run(RefusedCallsTest::setNamesIndexFirst);
        Check.run(RefusedCallsTest::candidateNamesIndexFirst);
        Check.run(RefusedCallsTest::valueNamesIndexFirst);
        Check.finish("RefusedCallsTest");
    }

    /** One that is as it was made, and some of one and two outputs. */
    private static CoverHouse house(int which) {
        switch (which) {
            case 0:
                return new CoverHouse();
            case 1:
                return Houses.single(2, 6, 8);
            case 2:
                return Houses.single(4, Houses.ODD, 1);
            case 3:
                return Houses.pair(1, 1, 2, 2, 0);
            case 4:
                return Houses.pair(3, Houses.RING, 1, 0xCA, 0);
            default:
                return Houses.pair(4, 15490, 17260, 34857, 29056);
        }
    }

    private static int inputsOf(int which) {
        return new int[] {1, 2, 4, 1, 3, 4}[which];
    }

    private static Check.Call[] refused(CoverHouse x, int inputs) {
        int beyond = 1 << (1 << inputs);
        return new Check.Call[] {
            () -> x.begin(0, 1), () -> x.begin(5, 2), () -> x.begin(4, 0), () -> x.begin(1, 3),
            () -> x.begin(-1, 1), () -> x.begin(3, -1),
            () -> x.set(-1, 1, 0), () -> x.set(2, 1, 2), () -> x.set(Integer.MIN_VALUE, 0, 0),
            () -> x.set(0, beyond, 0), () -> x.set(0, beyond | 1, 2), () -> x.set(0, 0, beyond),
            () -> x.set(0, 1, beyond | 2), () -> x.set(0, 1, 1), () -> x.set(0, 3, 2), () -> x.set(0, -1, 0),
            () -> x.candidate(-1, 0), () -> x.candidate(64, 1), () -> x.candidate(0, 5), () -> x.candidate(0, -1),
            () -> x.chosen(-1), () -> x.chosen(64), () -> x.chosen(Integer.MAX_VALUE),
            () -> x.value(-1, 0), () -> x.value(2, 0), () -> x.value(0, -1), () -> x.value(0, 1 << inputs),
        };
    }

    private static void changesNothingUnasked() {
        Check.sentence("Terms, end", "A call that throws changes nothing");
        changesNothing(false);
    }

    /** Where candidates and least cover may have been kept since they were asked for. */
    private static void changesNothingAsked() {
        Check.sentence("Terms, end", "A call that throws changes nothing");
        changesNothing(true);
    }

    private static void changesNothing(boolean asked) {
        for (int which = 0; which <= 5; which++) {
            String due = Houses.answers(house(which));
            int howMany = refused(house(which), inputsOf(which)).length;
            for (int call = 0; call < howMany; call++) {
                CoverHouse x = house(which);
                if (asked) {
                    x.least();
                }
                String name = "house " + which + ", refused call " + call;
                int ending = Check.ending(refused(x, inputsOf(which))[call]);
                Check.due(name + " throws", ending == Check.INDEX || ending == Check.ARGUMENT, true);
                Check.due(name + ": all answers", Houses.answers(x), due);
            }
        }
    }

    private static void setNamesIndexFirst() {
        Check.sentence("Terms, end", "of several exceptions the one that it names first is thrown");
        int[][] sets = {{16, 0}, {0, 16}, {1, 1}, {-1, -1}, {Integer.MIN_VALUE, 0}, {16, 16}};
        CoverHouse one = Houses.single(2, 6, 0);
        CoverHouse two = Houses.pair(2, 6, 9);
        for (int[] set : sets) {
            for (int output : new int[] {-1, 2, 3, Integer.MIN_VALUE, Integer.MAX_VALUE}) {
                Check.ends("set of 1", () -> one.set(output, set[0], set[1]), Check.INDEX);
                Check.ends("set of 2", () -> two.set(output, set[0], set[1]), Check.INDEX);
            }
            Check.ends("set output 1 of 1", () -> one.set(1, set[0], set[1]), Check.INDEX);
            Check.ends("set output 1 of 2", () -> two.set(1, set[0], set[1]), Check.ARGUMENT);
        }
    }

    private static void candidateNamesIndexFirst() {
        Check.sentence("Terms, end", "of several exceptions the one that it names first is thrown");
        CoverHouse x = Houses.single(2, 6, 0);
        for (int what : Check.outside(0, 4)) {
            for (int i : new int[] {-1, 2, 64, Integer.MIN_VALUE, Integer.MAX_VALUE}) {
                Check.ends("candidate " + i + ", " + what, () -> x.candidate(i, what), Check.INDEX);
            }
            Check.ends("candidate of none, " + what, () -> new CoverHouse().candidate(0, what), Check.INDEX);
        }
    }

    private static void valueNamesIndexFirst() {
        Check.sentence("Terms, end", "of several exceptions the one that it names first is thrown");
        CoverHouse x = Houses.single(3, 1, 0);
        for (int inputs : Check.outside(0, 7)) {
            for (int output : new int[] {-1, 1, 2, Integer.MIN_VALUE, Integer.MAX_VALUE}) {
                Check.ends("value " + output + ", " + inputs, () -> x.value(output, inputs), Check.INDEX);
            }
        }
    }
}
