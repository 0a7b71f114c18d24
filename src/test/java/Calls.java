import java.lang.reflect.InvocationTargetException;
import java.lang.reflect.Method;
import java.util.Random;

/** Every call of the face by its name, with arguments drawn mostly from where they mean something. */
final class Calls {
    /** The name, then what each argument is. */
    private static final String[] FACE = {
        "type text byte", "wipe text", "undo text", "fault text", "cell cell", "house house what", "set what eleven",
        "bowl night cell", "dog night cell", "back what", "read sheet", "at night steps", "goes night",
        "line night column", "realm night cell", "lies night house", "changes house", "taxes night what",
        "first what", "layOut night house realm laid", "rake night house realm", "live realm what",
        "seen night house realm", "forget", "never", "began", "ask night", "cat seventeen night house realm what",
        "roam any items what", "sheet sheet realm items", "lose sheet", "lay sheet realm item any",
        "get sheet realm item", "copy sheet item sheet item item", "write night sheet", "count nine", "digest"};
    private static final String[] KINDS = {"text 0 1", "cell 0 35", "house 0 7", "what 0 1", "eleven 0 10",
        "night 0 9", "sheet 0 3", "steps 0 24", "column 0 5", "realm 0 2", "laid -1 1", "seventeen 0 16",
        "items 0 60", "item 0 12", "nine 0 8"};
    private static final int[] EDGES = {Integer.MIN_VALUE, Integer.MIN_VALUE + 1, -100, -1, 0, 1, 59, 60, 61, 100,
        255, 256, 65535, 65536, Integer.MAX_VALUE - 1, Integer.MAX_VALUE};
    private static final String SIGNS = "....#lw;0123456789;";

    private final Random random;
    private final int wild;

    /** One argument in so many is out of its bounds. */
    Calls(Random random, int wild) {
        this.random = random;
        this.wild = wild;
    }

    static int number() {
        return FACE.length;
    }

    static String nameOf(int call) {
        return FACE[call].split(" ")[0];
    }

    int[] argumentsOf(int call) {
        String[] words = FACE[call].split(" ");
        int[] arguments = new int[words.length - 1];
        for (int i = 0; i < arguments.length; i++) {
            arguments[i] = argument(words[i + 1]);
        }
        return arguments;
    }

    private int argument(String kind) {
        if (random.nextInt(wild) == 0) {
            return EDGES[random.nextInt(EDGES.length)];
        }
        if (kind.equals("byte")) {
            return random.nextInt(20) == 0 ? random.nextInt(256) : SIGNS.charAt(random.nextInt(SIGNS.length()));
        }
        if (kind.equals("any")) {
            return random.nextInt(2) == 0 ? random.nextInt(36) : random.nextInt();
        }
        for (String told : KINDS) {
            String[] words = told.split(" ");
            if (words[0].equals(kind)) {
                int least = Integer.parseInt(words[1]);
                int most = Integer.parseInt(words[2]);
                int slip = random.nextInt(wild) == 0 ? 1 : 0;
                return least - slip + random.nextInt(most - least + 1 + 2 * slip);
            }
        }
        throw new IllegalArgumentException(kind);
    }

    static long answer(Object of, String name, int[] arguments) throws ReflectiveOperationException {
        Class<?>[] types = new Class<?>[arguments.length];
        Object[] values = new Object[arguments.length];
        for (int i = 0; i < arguments.length; i++) {
            types[i] = int.class;
            values[i] = arguments[i];
        }
        Method method = of.getClass().getDeclaredMethod(name, types);
        try {
            return ((Number) method.invoke(of, values)).longValue();
        } catch (InvocationTargetException e) {
            throw new IllegalStateException(name + java.util.Arrays.toString(arguments) + " threw", e.getCause());
        }
    }

    /** A text that is mostly well. */
    String land() {
        int rows = 1 + random.nextInt(6);
        int columns = 1 + random.nextInt(6);
        String signs = new String[] {"....#lw", ".", "..lw", ".#", "wl#...", "...........#l"}[random.nextInt(6)];
        StringBuilder text = new StringBuilder();
        for (int r = 0; r < rows; r++) {
            text.append(r == 0 ? "" : ";");
            for (int c = 0; c < columns; c++) {
                text.append(signs.charAt(random.nextInt(signs.length())));
            }
        }
        return text.toString();
    }

    String houses() {
        StringBuilder text = new StringBuilder();
        int number = random.nextInt(9);
        for (int h = 0; h < number; h++) {
            int cell = random.nextInt(random.nextBoolean() ? 40 : 18);
            text.append(h == 0 ? "" : ";").append(cell / 10).append(cell % 10).append(random.nextInt(10));
        }
        return text.toString();
    }
}
