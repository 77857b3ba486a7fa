import java.util.stream.IntStream;

/** Counts and prints the answers that are not the ones that are due. */
final class Check {
    static final int NOTHING = 0;
    static final int INDEX = 1;
    static final int ARGUMENT = 2;
    static final int ANOTHER = 3;

    private static final long[] STEPS = {1, 2, 8, 16, 32, 64, 128, 256, 65536, 1L << 31};

    private static int wrong = 0;
    private static String sentence = "";

    private Check() {
    }

    interface Call {
        void make();
    }

    /** A test that throws has failed, and the ones after it go on. */
    static void run(Call test) {
        try {
            test.make();
        } catch (RuntimeException e) {
            wrong++;
            System.out.println(sentence + "stopped by " + e + " at " + e.getStackTrace()[0]);
        }
    }

    /** Which sentence of the document the checks that follow would show to be broken. */
    static void sentence(String where, String words) {
        sentence = where + " \"" + words + "\": ";
    }

    static void due(String what, long got, long want) {
        due(what, Long.toString(got), Long.toString(want));
    }

    static void due(String what, boolean got, boolean want) {
        due(what, Boolean.toString(got), Boolean.toString(want));
    }

    static void due(String what, String got, String want) {
        if (!got.equals(want)) {
            wrong++;
            System.out.println(sentence + what + ": " + got + ", due is " + want);
        }
    }

    /** Which exception a call ends with; of the classes named, and not of those below them. */
    static int ending(Call call) {
        try {
            call.make();
            return NOTHING;
        } catch (RuntimeException e) {
            if (e.getClass() == IndexOutOfBoundsException.class) {
                return INDEX;
            }
            return e.getClass() == IllegalArgumentException.class ? ARGUMENT : ANOTHER;
        }
    }

    static void ends(String what, Call call, int want) {
        due(what + " ends with (0 nothing, 1 index, 2 argument, 3 another)", ending(call), want);
    }

    /** Numbers outside low .. high: the next ones, far ones, and such as wrap round to inside when cut. */
    static int[] outside(int low, int high) {
        IntStream.Builder some = IntStream.builder().add(Integer.MIN_VALUE).add(Integer.MAX_VALUE);
        for (long step : STEPS) {
            some.add((int) (low - step)).add((int) (low + step)).add((int) (high - step)).add((int) (high + step));
        }
        return some.build().filter(n -> n < low || n > high).distinct().toArray();
    }

    static void finish(String test) {
        System.out.println(test + ": " + (wrong == 0 ? "all answers are as due" : wrong + " answers are not as due"));
        if (wrong != 0) {
            System.exit(1);
        }
    }
}
