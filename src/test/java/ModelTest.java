import java.util.ArrayList;
import java.util.Arrays;
import java.util.List;
import java.util.Random;

/** Random runs of calls, each answer held against the model's; the seeds are fixed. */
public final class ModelTest {
    private static final int RUNS = 400;
    private static final int CALLS = 300;
    private static int wrong = 0;

    private ModelTest() {
    }

    public static void main(String[] args) throws ReflectiveOperationException {
        int runs = args.length > 0 ? Integer.parseInt(args[0]) : RUNS;
        int from = args.length > 1 ? Integer.parseInt(args[1]) : 0;
        for (int seed = from; seed < from + runs && wrong < 5; seed++) {
            run(seed);
        }
        System.out.println("ModelTest: " + runs + " runs, " + wrong + " wrong");
        if (wrong != 0) {
            System.exit(1);
        }
    }

    private static void run(int seed) throws ReflectiveOperationException {
        Random random = new Random(seed);
        Calls calls = new Calls(random, seed % 3 == 0 ? 4 : 40);
        HedgehogBorder x = new HedgehogBorder();
        Model model = new Model();
        List<String> said = new ArrayList<>();
        if (seed % 5 != 0) {
            typed(x, model, 0, calls.land(), said);
            typed(x, model, 1, calls.houses(), said);
        }
        for (int i = 0; i < CALLS; i++) {
            int call = random.nextInt(Calls.number());
            String name = Calls.nameOf(call);
            boolean spoils = name.equals("wipe") || name.equals("type") || name.equals("undo");
            boolean dear = name.equals("digest") || name.equals("layOut") || name.equals("cat");
            if (spoils && random.nextInt(12) != 0 || dear && random.nextInt(20) != 0) {
                continue;
            }
            if (!same(x, model, name, calls.argumentsOf(call), said)) {
                return;
            }
        }
        same(x, model, "digest", new int[0], said);
    }

    private static void typed(HedgehogBorder x, Model model, int text, String t, List<String> said)
        throws ReflectiveOperationException {
        for (int i = 0; i < t.length(); i++) {
            same(x, model, "type", new int[] {text, t.charAt(i)}, said);
        }
    }

    private static boolean same(HedgehogBorder x, Model model, String name, int[] arguments, List<String> said)
        throws ReflectiveOperationException {
        long got = Calls.answer(x, name, arguments);
        long want = Calls.answer(model, name, arguments);
        said.add(name + Arrays.toString(arguments) + " = " + want);
        if (got != want) {
            wrong++;
            System.out.println("behind " + said + " it answered " + got);
        }
        return got == want;
    }
}
