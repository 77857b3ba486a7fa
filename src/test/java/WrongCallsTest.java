import java.util.Random;

/** Wild calls in many states: the exception that is due, none else, and nothing changed by it. */
public final class WrongCallsTest {
    private static final int[] EDGES = {
        Integer.MIN_VALUE, Integer.MIN_VALUE + 1, -65536, -65535, -82, -16, -2, -1, 0, 1, 2, 3, 4, 5, 7, 8, 15, 16,
        17, 31, 32, 33, 39, 63, 64, 65, 80, 81, 82, 255, 256, 32768, 65535, 65536, Integer.MAX_VALUE - 1,
        Integer.MAX_VALUE
    };

    private static final Random RANDOM = new Random(7);
    private static CoverHouse house;
    private static int inputs;
    private static int outputs;

    public static void main(String[] args) {
        for (int run = 0; run < 700; run++) {
            house = new CoverHouse();
            inputs = 1;
            outputs = 1;
            // With the calls that look at the state these are fewer than 512.
            for (int call = 0; call < 45; call++) {
                wildCall();
            }
        }
        Check.finish("WrongCallsTest");
    }

    private static int edge() {
        return EDGES[RANDOM.nextInt(EDGES.length)];
    }

    private static int small() {
        return RANDOM.nextInt(8) - 1;
    }

    private static int argument() {
        return RANDOM.nextBoolean() ? edge() : RANDOM.nextBoolean() ? small() : RANDOM.nextInt(65536);
    }

    private static void wildCall() {
        int before = RANDOM.nextBoolean() ? state() : 0;
        int ending = oneCall(RANDOM.nextInt(6));
        if (before != 0 && ending != Check.NOTHING) {
            Check.due("state after a call that threw", state(), before);
        }
    }

    private static int state() {
        int state = house.candidates() * 64 + house.least();
        state = state * 256 + house.parts();
        return state * 64 + house.thinned(0) + 2;
    }

    private static int oneCall(int which) {
        int a = RANDOM.nextInt(3) == 0 ? edge() : small();
        int b = argument();
        int c = RANDOM.nextInt(3) == 0 ? argument() : 0;
        switch (which) {
            case 0:
                return begin(a, RANDOM.nextInt(3) == 0 ? edge() : 1 + RANDOM.nextInt(2));
            case 1:
                return set(a, b, c);
            case 2:
                return expect("candidate", () -> house.candidate(a, b),
                        a < 0 || a >= house.candidates() ? Check.INDEX : b < 0 || b > 4 ? Check.ARGUMENT : Check.NOTHING);
            case 3:
                return expect("chosen", () -> house.chosen(a),
                        a < 0 || a >= house.least() ? Check.INDEX : Check.NOTHING);
            case 4:
                return expect("value", () -> house.value(a, b), a < 0 || a >= outputs ? Check.INDEX
                        : b < 0 || b >= 1 << inputs ? Check.ARGUMENT : Check.NOTHING);
            default:
                return expect("thinned", () -> house.thinned(b), Check.NOTHING);
        }
    }

    private static int begin(int in, int out) {
        boolean right = in >= 1 && in <= 4 && out >= 1 && out <= 2;
        int ending = expect("begin", () -> house.begin(in, out), right ? Check.NOTHING : Check.ARGUMENT);
        if (right) {
            inputs = in;
            outputs = out;
        }
        return ending;
    }

    private static int set(int output, int one, int anything) {
        long all = (1L << (1 << inputs)) - 1L;
        boolean right = one >= 0 && anything >= 0 && one <= all && anything <= all && (one & anything) == 0;
        int due = output < 0 || output >= outputs ? Check.INDEX : right ? Check.NOTHING : Check.ARGUMENT;
        return expect("set", () -> house.set(output, one, anything), due);
    }

    private static int expect(String name, Check.Call call, int due) {
        int ending = Check.ending(call);
        Check.due(name + " of " + inputs + "," + outputs + " ends with", ending, due);
        return ending;
    }
}
