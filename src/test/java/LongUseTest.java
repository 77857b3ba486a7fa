import java.util.Random;

/** 512 calls of one object, right and wild ones: each answer, or exception, as the Oracle's words have it. */
public final class LongUseTest {
    private static final int CALLS = 512;
    private static final int[] EDGES = {
        Integer.MIN_VALUE, Integer.MIN_VALUE + 1, -65536, -65535, -82, -16, -2, -1, 0, 1, 2, 3, 4, 5, 7, 8, 15, 16,
        17, 31, 32, 33, 39, 63, 64, 65, 80, 81, 82, 255, 256, 32768, 65535, 65536, Integer.MAX_VALUE - 1,
        Integer.MAX_VALUE
    };
    private static final Random RANDOM = new Random(7);

    private CoverHouse house = new CoverHouse();
    private Oracle words = new Oracle(1, 1, new int[2], new int[2]);

    public static void main(String[] args) {
        Check.sentence("What it is", "An object is used for at most 512 calls after it has been made");
        for (int n = 0; n < 40; n++) {
            int number = n;
            Check.run(() -> new LongUseTest().callAll(number));
        }
        Check.run(LongUseTest::oneQuestion);
        Check.run(LongUseTest::refusedBefore);
        Check.run(LongUseTest::changedBefore);
        Check.finish("LongUseTest");
    }

    private void callAll(int number) {
        for (int call = 1; call <= CALLS; call++) {
            int which = RANDOM.nextInt(20);
            String name = "run " + number + ", call " + call + ": ";
            if (which == 0) {
                begin(name, around(0, 5), around(0, 3));
            } else if (which <= 4) {
                set(name, around(0, words.outputs), aSet(), RANDOM.nextInt(3) == 0 ? aSet() : 0);
            } else {
                ask(name, which);
            }
        }
    }

    /** Mostly low to high, at times an edge of something. */
    private static int around(int low, int high) {
        return RANDOM.nextInt(12) == 0 ? EDGES[RANDOM.nextInt(EDGES.length)] : low + RANDOM.nextInt(high - low + 1);
    }

    private int aSet() {
        int some = RANDOM.nextInt() & ~RANDOM.nextInt(256);
        int all = RANDOM.nextInt(40) == 0 ? -1 : Houses.all(words.inputs);
        return RANDOM.nextInt(12) == 0 ? EDGES[RANDOM.nextInt(EDGES.length)] : some & all;
    }

    private void begin(String name, int inputs, int outputs) {
        boolean right = inputs >= 1 && inputs <= 4 && outputs >= 1 && outputs <= 2;
        Check.ends(name + "begin", () -> house.begin(inputs, outputs), right ? Check.NOTHING : Check.ARGUMENT);
        if (right) {
            words = new Oracle(inputs, outputs, new int[2], new int[2]);
        }
    }

    private void set(String name, int output, int one, int anything) {
        boolean there = output >= 0 && output < words.outputs;
        boolean right = ((one | anything) & ~Houses.all(words.inputs)) == 0 && (one & anything) == 0;
        int due = !there ? Check.INDEX : right ? Check.NOTHING : Check.ARGUMENT;
        Check.ends(name + "set", () -> house.set(output, one, anything), due);
        if (there && right) {
            int[] ones = words.one.clone();
            int[] anythings = words.anything.clone();
            ones[output] = one;
            anythings[output] = anything;
            words = new Oracle(words.inputs, words.outputs, ones, anythings);
        }
    }

    private void ask(String name, int which) {
        int count = words.candidates.size();
        int least = words.least.length;
        int i = around(-1, count);
        int what = around(-1, 5);
        int k = around(-1, least);
        int output = around(0, words.outputs);
        int at = around(0, 1 << words.inputs);
        int from = around(-1, 40);
        switch (which) {
            case 5 -> Check.due(name + "candidates", house.candidates(), count);
            case 6 -> Check.due(name + "least", house.least(), least);
            case 7 -> Check.due(name + "parts", house.parts(), words.leastParts);
            case 8, 9, 10 -> Check.due(name + "thinned " + from, house.thinned(from), words.thinned(from));
            case 11, 12, 13 -> candidate(name, i, what);
            case 14, 15, 16 -> chosen(name, k);
            default -> value(name, output, at);
        }
    }

    private void candidate(String name, int i, int what) {
        int[] got = new int[1];
        boolean there = i >= 0 && i < words.candidates.size();
        int due = !there ? Check.INDEX : what < 0 || what > 4 ? Check.ARGUMENT : Check.NOTHING;
        Check.ends(name + "candidate", () -> got[0] = house.candidate(i, what), due);
        if (due == Check.NOTHING) {
            Check.due(name + "candidate " + i + ", " + what, got[0], words.answer(i, what));
        }
    }

    private void chosen(String name, int k) {
        int[] got = new int[1];
        boolean there = k >= 0 && k < words.least.length;
        Check.ends(name + "chosen", () -> got[0] = house.chosen(k), there ? Check.NOTHING : Check.INDEX);
        if (there) {
            Check.due(name + "chosen " + k, got[0], words.least[k]);
        }
    }

    private void value(String name, int output, int at) {
        boolean[] got = new boolean[1];
        boolean there = output >= 0 && output < words.outputs;
        int due = !there ? Check.INDEX : at < 0 || at >= 1 << words.inputs ? Check.ARGUMENT : Check.NOTHING;
        Check.ends(name + "value", () -> got[0] = house.value(output, at), due);
        if (due == Check.NOTHING) {
            Check.due(name + "value " + output + ", " + at, got[0], words.value(output, at));
        }
    }

    /** begin and two sets are the first three calls. */
    private static void oneQuestion() {
        CoverHouse x = Houses.fullest();
        int least = x.least();
        for (int call = 5; call <= CALLS; call++) {
            Check.due("the same question, call " + call, x.least(), least);
        }
    }

    private static void refusedBefore() {
        CoverHouse x = Houses.single(3, Houses.RING, 0);
        for (int call = 3; call < CALLS; call++) {
            int i = 3 + call;
            Check.ends("a refused call " + call, () -> x.candidate(i, 0), Check.INDEX);
        }
        Check.due("after 511 calls, all but two refused", x.least(), 3);
    }

    /** The outputs as they were set by calls 510 and 511. */
    private static void changedBefore() {
        CoverHouse x = new CoverHouse();
        x.begin(4, 2);
        for (int call = 2; call < CALLS; call++) {
            x.set(call % 2, call * 127 & 0xFFFF, 0);
        }
        CoverHouse fresh = Houses.pair(4, 510 * 127 & 0xFFFF, 511 * 127 & 0xFFFF);
        Check.due("after 511 calls, all but one sets", x.least(), fresh.least());
    }
}
