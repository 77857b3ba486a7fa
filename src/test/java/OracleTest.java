import java.util.Random;

/** Promises 1 to 10 over many outputs: every answer against that of the slow Oracle. */
public final class OracleTest {
    /** A new one for each comparison: an object is used for 512 calls, and one comparison makes fewer. */
    private static CoverHouse house;

    public static void main(String[] args) {
        allOfOneAndTwoInputs();
        Random random = new Random(20261115);
        for (int n = 0; n < 400; n++) {
            some(random, 3, 1 + n % 2);
        }
        for (int n = 0; n < 150; n++) {
            some(random, 4, 1 + n % 2);
        }
        hard();
        Check.finish("OracleTest");
    }

    private static void allOfOneAndTwoInputs() {
        for (int inputs = 1; inputs <= 2; inputs++) {
            int all = (1 << (1 << inputs)) - 1;
            for (int one = 0; one <= all; one++) {
                for (int anything = 0; anything <= all; anything++) {
                    if ((one & anything) == 0) {
                        compare(inputs, 1, one, anything, 0, 0);
                        compare(inputs, 2, one, anything, all & ~one & 11, all & one);
                    }
                }
            }
        }
    }

    private static void some(Random random, int inputs, int outputs) {
        int[] one = new int[2];
        int[] anything = new int[2];
        double share = random.nextDouble();
        double free = random.nextInt(3) * 0.2;
        for (int o = 0; o < outputs; o++) {
            for (int at = 0; at < 1 << inputs; at++) {
                if (random.nextDouble() < free) {
                    anything[o] |= 1 << at;
                } else if (random.nextDouble() < share) {
                    one[o] |= 1 << at;
                }
            }
        }
        compare(inputs, outputs, one[0], anything[0], one[1], anything[1]);
    }

    /** Many covers of the same size, so that parts and order decide. */
    private static void hard() {
        compare(4, 2, 32766, 0, 64479, 0);
        compare(4, 2, 61439, 0, 65527, 0);
        compare(4, 2, 15490, 17260, 34857, 29056);
        compare(4, 2, 1915, 61572, 59401, 6118);
        compare(4, 1, 40679, 0, 0, 0);
        compare(4, 2, 27030, 0, 38505, 0);
        compare(4, 2, 65535, 0, 0, 65535);
        compare(4, 2, 0, 65535, 0, 65535);
        compare(4, 2, 1, 0, 32768, 0);
        compare(4, 2, 44775, 0, 57331, 0);
        compare(4, 2, 59257, 0, 40679, 0);
    }

    private static void compare(int inputs, int outputs, int one0, int any0, int one1, int any1) {
        int[] one = {one0, one1};
        int[] anything = {any0, any1};
        house = new CoverHouse();
        house.begin(inputs, outputs);
        for (int o = 0; o < outputs; o++) {
            house.set(o, one[o], anything[o]);
        }
        Oracle oracle = new Oracle(inputs, outputs, one, anything);
        String at = inputs + "," + outputs + " " + one0 + "/" + any0 + " " + one1 + "/" + any1 + " ";
        compareCandidates(oracle, at);
        compareLeast(oracle, at);
        for (int from = -1; from <= 82; from++) {
            Check.due(at + "thinned " + from, house.thinned(from), oracle.thinned(from));
        }
    }

    private static void compareCandidates(Oracle oracle, String at) {
        Check.due(at + "candidates", house.candidates(), oracle.candidates.size());
        for (int i = 0; i < oracle.candidates.size(); i++) {
            for (int what = 0; what <= 4; what++) {
                Check.due(at + "candidate " + i + "," + what, house.candidate(i, what), oracle.answer(i, what));
            }
        }
    }

    private static void compareLeast(Oracle oracle, String at) {
        Check.due(at + "least", house.least(), oracle.least.length);
        Check.due(at + "parts", house.parts(), oracle.leastParts);
        for (int k = 0; k < oracle.least.length; k++) {
            Check.due(at + "chosen " + k, house.chosen(k), oracle.least[k]);
        }
        for (int o = 0; o < oracle.outputs; o++) {
            for (int in = 0; in < 1 << oracle.inputs; in++) {
                Check.due(at + "value " + o + "," + in, house.value(o, in), oracle.value(o, in));
            }
        }
    }
}
