/** Objects that the tests start from, and all that an object answers. */
final class Houses {
    /** The two functions of four inputs with the most candidates that there can be, 32. */
    static final int FULLEST_FIRST = 27581;
    static final int FULLEST_SECOND = 48598;
    /** Whether an odd number of the four inputs is 1: no product of it leaves an input out. */
    static final int ODD = 27030;
    static final int EVEN = 38505;
    /** Of three inputs, not all alike: six candidates, each two of them next to one another, in a ring. */
    static final int RING = 126;

    private Houses() {
    }

    /** One output. */
    static CoverHouse single(int inputs, int one, int anything) {
        CoverHouse x = new CoverHouse();
        x.begin(inputs, 1);
        x.set(0, one, anything);
        return x;
    }

    /** Two outputs that are anything for no inputs. */
    static CoverHouse pair(int inputs, int first, int second) {
        return pair(inputs, first, 0, second, 0);
    }

    static CoverHouse pair(int inputs, int one0, int anything0, int one1, int anything1) {
        CoverHouse x = new CoverHouse();
        x.begin(inputs, 2);
        x.set(0, one0, anything0);
        x.set(1, one1, anything1);
        return x;
    }

    static CoverHouse fullest() {
        return pair(4, FULLEST_FIRST, FULLEST_SECOND);
    }

    /** The set of all inputs that there are. */
    static int all(int inputs) {
        return (1 << (1 << inputs)) - 1;
    }

    /** Of each candidate one of its answers. */
    static String list(CoverHouse x, int what) {
        StringBuilder text = new StringBuilder();
        int count = x.candidates();
        for (int i = 0; i < count; i++) {
            text.append(i == 0 ? "" : " ").append(x.candidate(i, what));
        }
        return text.toString();
    }

    static String chosen(CoverHouse x) {
        StringBuilder text = new StringBuilder();
        int least = x.least();
        for (int k = 0; k < least; k++) {
            text.append(k == 0 ? "" : " ").append(x.chosen(k));
        }
        return text.toString();
    }

    /** For all inputs told, and one more, of each output and one more: 1, 0, or how the call is refused. */
    static String values(CoverHouse x) {
        StringBuilder text = new StringBuilder();
        for (int output = 0; output <= 2; output++) {
            for (int at = 0; at <= 16; at++) {
                text.append(valueOrEnding(x, output, at));
            }
            text.append(' ');
        }
        return text.toString();
    }

    private static String valueOrEnding(CoverHouse x, int output, int at) {
        boolean[] value = new boolean[1];
        int ending = Check.ending(() -> value[0] = x.value(output, at));
        return ending == Check.NOTHING ? value[0] ? "1" : "0" : ending == Check.INDEX ? "i" : "a";
    }

    /** All that the object answers, but for some of thinned, by at most 260 calls. */
    static String answers(CoverHouse x) {
        StringBuilder text = new StringBuilder();
        for (int what = 0; what <= 4; what++) {
            text.append(list(x, what)).append('|');
        }
        text.append(chosen(x)).append('|').append(x.parts()).append('|').append(values(x));
        return text.append('|').append(x.thinned(0)).append('|').append(x.thinned(9)).toString();
    }
}
