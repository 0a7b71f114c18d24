import java.io.IOException;
import java.lang.reflect.Constructor;
import java.lang.reflect.Field;
import java.lang.reflect.Modifier;
import java.nio.file.Files;
import java.nio.file.Path;
import java.util.Random;
import java.util.regex.Matcher;
import java.util.regex.Pattern;

/** How long an object is used, and what the interface says: constants, a constructor, calls in their order. */
public final class FaceTest {
    private static final Check CHECK = new Check("FaceTest");
    private static final String SOURCE = "src/main/java/HedgehogBorder.java";
    private static final String LAND = "..l.w;.#l..;l..#.;.w.l.";
    private static final String HOUSES = "025;103;187;121;394";
    private static final int CALLS = 512;
    /** What the interface says, and ahead of which calls. */
    private static final String[] PARTS = {
        "the land, houses, bowls, dogs: type wipe undo fault cell house set bowl dog back read",
        "nights: at goes line realm lies changes taxes first",
        "plans: layOut rake live",
        "seen, cats, roaming: seen forget never began ask cat roam",
        "sheets: sheet lose lay get copy write count digest"};

    private FaceTest() {
    }

    public static void main(String[] args) throws ReflectiveOperationException, IOException {
        constants();
        oneConstructor();
        theInterfaceSays();
        usedFor512Calls();
        laterCallsDoNotThrow();
        objectsShareNothing();
        CHECK.end();
    }

    private static void constants() throws ReflectiveOperationException {
        String[] names = {"NONE", "BAD", "NOT", "FULL"};
        int seen = Modifier.PUBLIC | Modifier.STATIC | Modifier.FINAL;
        for (int i = 0; i < names.length; i++) {
            Field field = HedgehogBorder.class.getDeclaredField(names[i]);
            CHECK.due(names[i] + " is public static final", field.getModifiers(), seen);
            CHECK.due(names[i] + " is an int", field.getType() == int.class ? 1 : 0, 1);
            CHECK.due(names[i], field.getInt(null), -1 - i);
        }
        CHECK.due("and no other public field", HedgehogBorder.class.getFields().length, names.length);
    }

    private static void oneConstructor() {
        Constructor<?>[] all = HedgehogBorder.class.getDeclaredConstructors();
        CHECK.due("one constructor", all.length, 1);
        CHECK.due("it is public", all[0].getModifiers(), Modifier.PUBLIC);
        CHECK.due("it has no parameters", all[0].getParameterCount(), 0);
    }

    /** The calls as they stand in the file, each part behind what the interface says ahead of it. */
    private static void theInterfaceSays() throws IOException {
        Matcher matcher = Pattern.compile("(?m)^    // ---- (.*)$|^    public (?:int|long) (\\w+)\\(")
            .matcher(Files.readString(Path.of(SOURCE)));
        StringBuilder got = new StringBuilder();
        while (matcher.find()) {
            got.append(matcher.group(1) != null ? "\n" + matcher.group(1) + ":" : " " + matcher.group(2));
        }
        String want = "\n" + String.join("\n", PARTS);
        if (!got.toString().equals(want)) {
            System.out.println("the interface says" + got);
        }
        CHECK.due("the interface", got.toString().equals(want) ? 1 : 0, 1);
    }

    /** Every kind of call, up to the 512th, is held against the model. */
    private static void usedFor512Calls() throws ReflectiveOperationException {
        for (int seed = 0; seed < 8; seed++) {
            HedgehogBorder x = new HedgehogBorder();
            Model model = new Model();
            Random random = new Random(seed);
            Calls calls = new Calls(random, 30);
            String typed = LAND + HOUSES;
            for (int n = 0; n < CALLS; n++) {
                if (n < typed.length()) {
                    int[] arguments = {n < LAND.length() ? 0 : 1, typed.charAt(n)};
                    same(seed, n, x, model, "type", arguments);
                } else if (n == CALLS - 1) {
                    same(seed, n, x, model, "digest", new int[0]);
                } else {
                    int call = aCallThatSpoilsNoText(random);
                    same(seed, n, x, model, Calls.nameOf(call), calls.argumentsOf(call));
                }
            }
        }
    }

    private static int aCallThatSpoilsNoText(Random random) {
        int call = random.nextInt(Calls.number());
        while (Calls.nameOf(call).matches("type|wipe|undo")) {
            call = random.nextInt(Calls.number());
        }
        return call;
    }

    private static void same(int seed, int n, HedgehogBorder x, Model model, String name, int[] arguments)
        throws ReflectiveOperationException {
        String what = "run " + seed + ", call " + (n + 1) + ": " + name + java.util.Arrays.toString(arguments);
        CHECK.due(what, Calls.answer(x, name, arguments), Calls.answer(model, name, arguments));
    }

    /** What they answer is free; that they answer is not. */
    private static void laterCallsDoNotThrow() throws ReflectiveOperationException {
        HedgehogBorder x = Check.with(LAND, HOUSES);
        Random random = new Random(512);
        Calls calls = new Calls(random, 9);
        for (int n = 0; n < 20 * CALLS; n++) {
            int call = random.nextInt(Calls.number());
            Calls.answer(x, Calls.nameOf(call), calls.argumentsOf(call));
        }
        CHECK.due("it still answers", x.count(-1), HedgehogBorder.BAD);
    }

    /** One object is filled while another is asked: neither knows of the other. */
    private static void objectsShareNothing() {
        HedgehogBorder fresh = new HedgehogBorder();
        HedgehogBorder well = States.make("well");
        String told = States.told(States.make("well"));
        long digest = new HedgehogBorder().digest();
        HedgehogBorder full = States.make("full");
        full.digest();
        CHECK.due("a new one beside a full one", fresh.digest(), digest);
        CHECK.due("its SHEETS are LOST", fresh.lose(0), -11);
        CHECK.due("a well one beside a full one", States.told(well).equals(told) ? 1 : 0, 1);
        CHECK.due("a full one beside them", full.digest(), States.make("full").digest());
    }
}
