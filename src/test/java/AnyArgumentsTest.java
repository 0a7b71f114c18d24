import java.util.Random;

/** No call throws or fails to end, for any arguments in any state; the same calls give the same answers. */
public final class AnyArgumentsTest {
    private static final int RUNS = 3000;
    private static final int CALLS = 512;

    private AnyArgumentsTest() {
    }

    public static void main(String[] args) throws ReflectiveOperationException {
        long calls = 0;
        for (int seed = 0; seed < RUNS; seed++) {
            if (run(seed) != run(seed)) {
                System.out.println("AnyArgumentsTest: run " + seed + " came out otherwise the second time");
                System.exit(1);
            }
            calls += 2 * CALLS;
        }
        dearest();
        System.out.println("AnyArgumentsTest: " + calls + " calls, none threw");
    }

    private static long run(int seed) throws ReflectiveOperationException {
        Random random = new Random(seed);
        Calls calls = new Calls(random, 1 + seed % 9);
        HedgehogBorder x = Check.with(seed % 4 == 0 ? "" : calls.land(), seed % 4 == 0 ? "" : calls.houses());
        long all = 0;
        for (int i = 0; i < CALLS; i++) {
            int call = random.nextInt(Calls.number());
            all = 31 * all + Calls.answer(x, Calls.nameOf(call), calls.argumentsOf(call));
        }
        return all;
    }

    /** The widest land with all houses, bowls and dogs, asked for its digest till the end of its use. */
    private static void dearest() {
        HedgehogBorder x = Check.with("......;......;......;......;......;......",
            "300;310;320;330;340;350;290;280");
        for (int i = 0; i < 8; i++) {
            x.bowl(i / 2, 6 * (i % 6));
            x.dog(i, i);
            x.seen(i, i, i % 3);
        }
        long digest = x.digest();
        for (int i = 0; i < 300; i++) {
            if (x.digest() != digest) {
                System.out.println("AnyArgumentsTest: the digest is another one");
                System.exit(1);
            }
        }
    }
}
