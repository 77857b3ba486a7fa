/** Counts and prints the answers that are not the ones that are due. */
final class Check {
    static final int NOTHING = 0;
    static final int INDEX = 1;
    static final int ARGUMENT = 2;
    static final int ANOTHER = 3;

    private static int wrong = 0;

    private Check() {
    }

    interface Call {
        void make();
    }

    static void due(String what, long got, long want) {
        if (got != want) {
            wrong++;
            System.out.println(what + ": " + got + ", due is " + want);
        }
    }

    static void due(String what, boolean got, boolean want) {
        due(what, got ? 1L : 0L, want ? 1L : 0L);
    }

    /** Which exception a call ends with; of the classes named, and not of those below them. */
    static int ending(Call call) {
        try {
            call.make();
            return NOTHING;
        } catch (RuntimeException e) {
            if (e.getClass() == IndexOutOfBoundsException.class) {
                return INDEX;
            }
            return e.getClass() == IllegalArgumentException.class ? ARGUMENT : ANOTHER;
        }
    }

    static void ends(String what, Call call, int want) {
        due(what + " ends with (0 nothing, 1 index, 2 argument, 3 another)", ending(call), want);
    }

    static void finish(String test) {
        System.out.println(test + ": " + (wrong == 0 ? "all answers are as due" : wrong + " answers are not as due"));
        if (wrong != 0) {
            System.exit(1);
        }
    }
}
