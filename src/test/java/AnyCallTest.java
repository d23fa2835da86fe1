import java.util.Random;

/** Any calls with any arguments in any state: nothing is thrown but what the document names for that call. */
public final class AnyCallTest {
    private static final int[] EDGES = {Integer.MIN_VALUE, -2147483647, -1, 0, 1, 2, 8, 12, 15, 16, 17, 20, 31, 32, 35,
        36, 37, 50, 51, 100, 101, 512, 1000, 1001, 1500, Integer.MAX_VALUE};
    private static final String ARGUMENT = "IllegalArgumentException";
    private static final String STATE = "IllegalStateException";
    private static final String INDEX = "IndexOutOfBoundsException";

    private AnyCallTest() {
    }

    public static void main(String[] args) {
        for (int seed = 0; seed < 3000; seed++) {
            Random random = new Random(seed * 0x9E3779B97F4A7C15L);
            StrandRuntime x = new StrandRuntime();
            for (int i = 0; i < 512; i++) {
                one(x, random, "seed " + seed + " call " + i);
            }
            Due.is("check", x.check(), 0);
        }
        Due.end("AnyCallTest");
    }

    private static int any(Random random) {
        switch (random.nextInt(4)) {
            case 0: return EDGES[random.nextInt(EDGES.length)];
            case 1: return random.nextInt(40);
            case 2: return random.nextInt(5);
            default: return random.nextInt(17);
        }
    }

    private static void one(StrandRuntime x, Random random, String name) {
        int a = any(random);
        int b = any(random);
        switch (random.nextInt(24)) {
            case 0: may(name, () -> x.function(a, b), ARGUMENT, STATE); break;
            case 1: may(name, () -> x.function(a % 2, 3), ARGUMENT, STATE); break;
            case 2: case 3: may(name, () -> x.begin(a), ARGUMENT); break;
            case 4: case 5: case 6: case 7: case 8: case 9: may(name, () -> x.code(a, b), ARGUMENT, STATE); break;
            case 10: may(name, () -> x.code(19, b), STATE); break;
            case 11: may(name, () -> x.begin(0), ARGUMENT); break;
            case 12: may(name, () -> x.quantum(a), ARGUMENT); break;
            case 13: may(name, () -> x.pace(a), ARGUMENT); break;
            case 14: case 15: may(name, () -> x.run(a), ARGUMENT, STATE); break;
            case 16: may(name, x::state); break;
            case 17: may(name, x::take); break;
            case 18: may(name, () -> x.strand(a, b), INDEX, ARGUMENT); break;
            case 19: may(name, () -> x.operand(a, b), INDEX); break;
            case 20: may(name, () -> x.kind(a, b), INDEX); break;
            case 21: may(name, () -> x.count(a), ARGUMENT); break;
            case 22: may(name, x::digest); break;
            default:
                if (random.nextInt(12) == 0) {
                    may(name, x::clear);
                } else {
                    may(name, x::collect);
                }
                break;
        }
    }

    private static void may(String name, Runnable call, String... thrown) {
        String got = "";
        try {
            call.run();
        } catch (RuntimeException e) {
            got = e.getClass().getSimpleName();
        }
        boolean allowed = got.isEmpty();
        for (String t : thrown) {
            allowed |= t.equals(got);
        }
        Due.is(name + " threw " + got, allowed ? 1 : 0, 1);
    }
}
