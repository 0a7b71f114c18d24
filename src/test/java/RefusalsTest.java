import java.util.HashMap;
import java.util.Map;
import java.util.TreeSet;

/**
 * Refusals: every int of every call at its bounds, beside them, and at the ends of all ints; which refusal comes first;
 * that nothing has changed behind one.
 */
public final class RefusalsTest {
    private static final Check CHECK = new Check("RefusalsTest");
    private static final int LEAST = Integer.MIN_VALUE, GREATEST = Integer.MAX_VALUE;
    private static final int BAD = -2, NOT = -3, FULL = -4;
    private static final int NULL = -11, INDEX = -12, CAST = -13, STORE = -14, SIZE = -15;
    /**
     * A call, then the least and the greatest number of each argument that is not BAD: of all ints (*), of the state's
     * HOUSES (h), COLUMNS (c), CELLS (l); one with = is held there. A call with ? changes nothing whatever it answers.
     */
    private static final String[] BOUNDS = {
        "type 0..1 0..255", "wipe 0..1", "undo 0..1", "?fault 0..1", "?cell 0..35", "?house h 0..1", "set 0..1 =5",
        "set =0 0..5", "set =1 0..10", "bowl 0..9 0..35", "dog 0..9 0..35", "back 0..1", "read 0..3", "?at 0..9 0..24",
        "?goes 0..9", "?line 0..9 c", "?realm 0..9 l", "?lies 0..9 h", "?changes h", "?taxes 0..9 0..1", "?first 0..1",
        "?layOut 0..9 h 0..2 -1..1", "?rake 0..9 h 0..2", "?live 0..2 0..1", "seen 0..9 0..7 0..2", "?ask 0..9",
        "?cat 0..16 0..9 h 0..2 0..1", "?roam * 0..60 0..1", "sheet 0..3 0..2 -2147483648..60", "lose 0..3",
        "lay 0..3 0..2 * *", "get 0..3 0..2 *", "copy 0..3 * 0..3 * *", "write 0..9 0..3", "?count 0..8"};

    private static final Map<String, String> TOLD = new HashMap<>();
    private static final Map<String, String> APART = new HashMap<>();

    private RefusalsTest() {
    }

    public static void main(String[] args) throws ReflectiveOperationException {
        for (String state : States.NAMES) {
            TOLD.put(state, States.told(States.make(state)));
            APART.put(state, States.takenApart(States.make(state)));
        }
        for (String state : States.NAMES) {
            for (String call : BOUNDS) {
                bounds(state, call.split(" "));
            }
            callsWithoutArguments(state);
        }
        everyCallIsHere();
        badAheadOfFull();
        badAheadOfNot();
        badAheadOfNull();
        badAheadOfSize();
        orderOfLay();
        orderOfGet();
        orderOfCopy();
        notChangesNothing();
        fullChangesNothing();
        findingsChangeCountEightAlone();
        aFindingTellsItsNumber();
        aLongTellsARefusal();
        CHECK.end();
    }

    private static void due(String what, long got, long want) {
        CHECK.due(what, got, want);
    }

    // ---- BAD: a number not as told, no such thing

    private static void bounds(String state, String[] call) throws ReflectiveOperationException {
        int[] least = new int[call.length - 1];
        int[] most = new int[call.length - 1];
        for (int p = 0; p < least.length; p++) {
            int[] range = range(state, call[p + 1]);
            least[p] = range[0];
            most[p] = range[1];
        }
        for (int p = 0; p < least.length; p++) {
            for (int v : call[p + 1].startsWith("=") ? new TreeSet<Integer>() : values(least[p], most[p])) {
                tried(state, call, p, v, least, most, least);
                tried(state, call, p, v, least, most, most);
            }
        }
    }

    private static int[] range(String state, String told) {
        return switch (told) {
            case "*" -> new int[] {LEAST, GREATEST};
            case "h" -> new int[] {0, States.houses(state) - 1};
            case "c" -> new int[] {0, States.columns(state) - 1};
            case "l" -> new int[] {0, States.cells(state) - 1};
            default -> {
                String[] ends = told.replace("=", "").split("\\.\\.");
                yield new int[] {Integer.parseInt(ends[0]), Integer.parseInt(ends[ends.length - 1])};
            }
        };
    }

    /** Each bound with the numbers beside it, and the ends of all ints. */
    private static TreeSet<Integer> values(int least, int most) {
        TreeSet<Integer> all = new TreeSet<>();
        for (int bound : new int[] {LEAST + 1, least, most, 0, GREATEST - 1}) {
            all.add(bound == LEAST ? LEAST : bound - 1);
            all.add(bound);
            all.add(bound == GREATEST ? GREATEST : bound + 1);
        }
        return all;
    }

    private static void tried(String state, String[] call, int p, int v, int[] least, int[] most, int[] others)
        throws ReflectiveOperationException {
        int[] arguments = others.clone();
        arguments[p] = v;
        boolean bad = false;
        for (int k = 0; k < arguments.length; k++) {
            bad |= arguments[k] < least[k] || arguments[k] > most[k];
        }
        String name = call[0].replace("?", "");
        String what = state + ": " + name + java.util.Arrays.toString(arguments);
        HedgehogBorder x = States.make(state);
        long got = Calls.answer(x, name, arguments);
        due(what + " is BAD", isBad(name, got, x) ? 1 : 0, bad ? 1 : 0);
        if (bad || call[0].startsWith("?")) {
            due(what + ": count(8) behind it", x.count(8), States.SIZE);
            boolean beside = v == least[p] - 1 || v == most[p] + 1;
            String want = bad && beside ? APART.get(state) : TOLD.get(state);
            String told = bad && beside ? States.takenApart(x) : States.told(x);
            due(what + ": nothing has changed", told.equals(want) ? 1 : 0, 1);
        }
    }

    /** Of get() the least int is BAD where it is no FINDING; no item in these states is the least int. */
    private static boolean isBad(String name, long got, HedgehogBorder x) {
        if (name.equals("cat")) {
            return got == Long.MIN_VALUE + 2;
        }
        return name.equals("get") ? got == LEAST && x.count(8) == States.SIZE : got == BAD;
    }

    private static void callsWithoutArguments(String state) throws ReflectiveOperationException {
        for (String name : new String[] {"never", "began", "digest"}) {
            HedgehogBorder x = States.make(state);
            Calls.answer(x, name, new int[0]);
            due(state + ": " + name + "(): count(8)", x.count(8), States.SIZE);
            due(state + ": " + name + "() changes nothing", States.told(x).equals(TOLD.get(state)) ? 1 : 0, 1);
        }
    }

    private static void everyCallIsHere() {
        TreeSet<String> here = new TreeSet<>(java.util.List.of("never", "began", "digest", "forget"));
        for (String call : BOUNDS) {
            here.add(call.split(" ")[0].replace("?", ""));
        }
        for (int i = 0; i < Calls.number(); i++) {
            due("the bounds of " + Calls.nameOf(i), here.contains(Calls.nameOf(i)) ? 1 : 0, 1);
        }
        due("as many calls", here.size(), Calls.number());
    }

    // ---- the first that fits, in the order told at each act

    private static void badAheadOfFull() {
        HedgehogBorder x = States.make("full");
        for (int bad : new int[] {LEAST, -1, 256, GREATEST}) {
            due("type(0, " + bad + ") of a full text", x.type(0, bad), BAD);
            due("type(1, " + bad + ") of a full text", x.type(1, bad), BAD);
        }
        for (int bad : new int[] {LEAST, -1, 10, GREATEST}) {
            due("bowl(" + bad + ", 0), eight are there", x.bowl(bad, 0), BAD);
            due("dog(" + bad + ", 0), eight are there", x.dog(bad, 0), BAD);
            due("seen(" + bad + ", 0, 0), eight are there", x.seen(bad, 0, 0), BAD);
        }
        for (int bad : new int[] {LEAST, -1, 36, GREATEST}) {
            due("bowl(0, " + bad + "), eight are there", x.bowl(0, bad), BAD);
            due("dog(0, " + bad + "), eight are there", x.dog(0, bad), BAD);
            due("seen(0, " + bad + ", 0), eight are there", x.seen(0, bad, 0), BAD);
            due("seen(0, 0, " + bad + "), eight are there", x.seen(0, 0, bad), BAD);
        }
        due("seen(0, 8, 0), eight are there", x.seen(0, 8, 0), BAD);
        due("seen(0, 0, 3), eight are there", x.seen(0, 0, 3), BAD);
        due("type(0, 255) of a full text", x.type(0, 255), FULL);
        due("type(1, 0) of a full text", x.type(1, 0), FULL);
        due("bowl(9, 35), eight are there", x.bowl(9, 35), FULL);
        due("dog(9, 35), eight are there", x.dog(9, 35), FULL);
        due("seen(9, 7, 2), eight are there", x.seen(9, 7, 2), FULL);
    }

    private static void badAheadOfNot() {
        HedgehogBorder x = States.make("new");
        for (int bad : new int[] {LEAST, -1, 2, GREATEST}) {
            due("undo(" + bad + "), both are empty", x.undo(bad), BAD);
            due("back(" + bad + "), there is none", x.back(bad), BAD);
        }
        for (int what = 0; what < 2; what++) {
            due("undo(" + what + ") of an empty text", x.undo(what), NOT);
            due("back(" + what + ") of none", x.back(what), NOT);
        }
    }

    private static void badAheadOfNull() {
        HedgehogBorder x = States.make("new");
        for (int bad : new int[] {LEAST, -1, 4, GREATEST}) {
            due("read(" + bad + "), all are LOST", x.read(bad), BAD);
            due("lose(" + bad + "), all are LOST", x.lose(bad), BAD);
            due("write(0, " + bad + "), all are LOST", x.write(0, bad), BAD);
        }
        for (int bad : new int[] {LEAST, -1, 10, GREATEST}) {
            due("write(" + bad + ", 0), all are LOST", x.write(bad, 0), BAD);
        }
        due("no FINDING by BAD", x.count(8), States.SIZE);
        for (int s = 0; s < 4; s++) {
            due("read(" + s + ") of a LOST one", x.read(s), NULL);
            due("lose(" + s + ") of a LOST one", x.lose(s), NULL);
            due("write(9, " + s + ") to a LOST one", x.write(9, s), NULL);
        }
    }

    private static void badAheadOfSize() {
        HedgehogBorder x = new HedgehogBorder();
        for (int n : new int[] {LEAST, -1}) {
            due("sheet(-1, 0, " + n + ")", x.sheet(-1, 0, n), BAD);
            due("sheet(4, 0, " + n + ")", x.sheet(4, 0, n), BAD);
            due("sheet(0, -1, " + n + ")", x.sheet(0, -1, n), BAD);
            due("sheet(3, 3, " + n + ")", x.sheet(3, 3, n), BAD);
        }
        due("no FINDING by BAD", x.count(8), 0);
        due("sheet(0, 0, -1)", x.sheet(0, 0, -1), SIZE);
        due("sheet(3, 2, least)", x.sheet(3, 2, LEAST), SIZE);
    }

    /** SHEETS 0 to 2 are of FORMS 0 to 2 with 3, 4 and 5 items, SHEET 3 is LOST. */
    private static void orderOfLay() {
        HedgehogBorder x = States.make("well");
        due("lay: BAD sheet, another FORM, no item", x.lay(4, 1, -1, 0), BAD);
        due("lay: BAD FORM of a LOST one, no item", x.lay(3, 3, -1, 0), BAD);
        due("lay: BAD FORM of another FORM, no item", x.lay(0, -1, 3, 0), BAD);
        due("lay: LOST, no item -1", x.lay(3, 0, -1, 0), NULL);
        due("lay: LOST, the greatest item", x.lay(3, 2, GREATEST, 0), NULL);
        for (int s = 0; s < 3; s++) {
            for (int form = 0; form < 3; form++) {
                for (int i : new int[] {LEAST, -1, 3 + s, GREATEST}) {
                    due("lay: SHEET " + s + " as of FORM " + form + ", no item " + i, x.lay(s, form, i, 0),
                        form == s ? INDEX : CAST);
                }
                due("lay: SHEET " + s + " as of FORM " + form + ", its last item", x.lay(s, form, 2 + s, 0),
                    form == s ? 1 : CAST);
            }
        }
    }

    private static void gotten(String what, HedgehogBorder x, int[] of, int finding) {
        x.sheet(0, 0, -1);
        due("get: " + what, x.get(of[0], of[1], of[2]), LEAST);
        due("get: " + what + ": count(8)", x.count(8), finding);
    }

    private static void orderOfGet() {
        HedgehogBorder x = States.make("well");
        gotten("BAD sheet, another FORM, no item", x, new int[] {-1, 1, -1}, States.SIZE);
        gotten("BAD FORM of a LOST one, no item", x, new int[] {3, -1, -1}, States.SIZE);
        gotten("BAD FORM of another FORM, no item", x, new int[] {0, 3, 3}, States.SIZE);
        gotten("LOST, no item -1", x, new int[] {3, 0, -1}, 1);
        gotten("LOST, the greatest item", x, new int[] {3, 2, GREATEST}, 1);
        for (int s = 0; s < 3; s++) {
            for (int i : new int[] {LEAST, -1, 3 + s, GREATEST}) {
                gotten("of its FORM, no item " + i, x, new int[] {s, s, i}, 2);
                gotten("of another FORM, no item " + i, x, new int[] {s, (s + 1) % 3, i}, 3);
            }
        }
    }

    private static void orderOfCopy() {
        HedgehogBorder x = States.make("well");
        due("copy: BAD s, t is LOST, no item", x.copy(4, -1, 3, -1, -1), BAD);
        due("copy: BAD t, s is LOST, no item", x.copy(3, -1, -1, -1, -1), BAD);
        due("copy: both are BAD", x.copy(LEAST, 0, GREATEST, 0, 0), BAD);
        due("no FINDING by BAD", x.count(8), States.SIZE);
        due("copy: s is LOST, no item", x.copy(3, -1, 0, 9, -1), NULL);
        due("copy: t is LOST, no item", x.copy(0, -1, 3, 9, -1), NULL);
        due("copy: both are LOST", x.copy(3, 0, 3, 0, 0), NULL);
        due("copy: unlike FORMS, i below 0", x.copy(0, -1, 1, 0, 1), STORE);
        due("copy: unlike FORMS, j below 0", x.copy(1, 0, 2, -1, 1), STORE);
        due("copy: unlike FORMS, n below 0", x.copy(2, 0, 0, 0, LEAST), STORE);
        due("copy: unlike FORMS, not so many", x.copy(2, 0, 1, 0, GREATEST), STORE);
        due("copy: unlike FORMS, none at all", x.copy(0, 0, 1, 0, 0), STORE);
        due("copy: like FORMS, n below 0", x.copy(0, 0, 0, 0, -1), INDEX);
    }

    // ---- they change nothing

    private static void same(String what, String state, HedgehogBorder x) {
        due(what + ": nothing has changed", States.takenApart(x).equals(APART.get(state)) ? 1 : 0, 1);
    }

    private static void notChangesNothing() {
        HedgehogBorder x = States.make("new");
        due("NOTs", x.undo(0) + x.undo(1) + x.back(0) + x.back(1), 4 * NOT);
        due("NOT is no FINDING", x.count(8), States.SIZE);
        same("NOT", "new", x);
    }

    private static void fullChangesNothing() {
        HedgehogBorder x = States.make("full");
        due("type(0, ';') is FULL", x.type(0, ';'), FULL);
        same("type(0, ';')", "full", x);
        x = States.make("full");
        due("type(1, ';') is FULL", x.type(1, ';'), FULL);
        same("type(1, ';')", "full", x);
        x = States.make("full");
        due("bowl(0, 0) is FULL", x.bowl(0, 0), FULL);
        same("bowl(0, 0)", "full", x);
        x = States.make("full");
        due("dog(0, 0) is FULL", x.dog(0, 0), FULL);
        same("dog(0, 0)", "full", x);
        x = States.make("full");
        due("seen(0, 7, 0) is FULL", x.seen(0, 7, 0), FULL);
        due("FULL is no FINDING", x.count(8), States.SIZE);
        same("seen(0, 7, 0)", "full", x);
    }

    /** Calls with what they find, each on an object of its own. */
    private static void findingsChangeCountEightAlone() throws ReflectiveOperationException {
        String[] found = {"read 3 = -11", "lose 3 = -11", "write 0 3 = -11", "lay 3 0 0 5 = -11",
            "copy 3 0 0 0 1 = -11", "copy 0 0 3 0 1 = -11", "lay 0 0 3 5 = -12", "lay 0 0 -1 5 = -12",
            "lay 2 2 5 5 = -12", "copy 0 1 0 0 3 = -12", "copy 1 0 1 1 4 = -12", "copy 2 -1 2 0 2 = -12",
            "copy 2 0 2 -1 2 = -12", "copy 2 1 2 0 -1 = -12",
            "lay 0 1 0 5 = -13", "lay 2 0 1 5 = -13", "copy 0 0 1 0 2 = -14", "copy 2 1 0 0 2 = -14",
            "sheet 0 0 -1 = -15", "sheet 2 1 -2147483648 = -15", "sheet 3 2 -1 = -15"};
        for (String line : found) {
            String[] words = line.split(" = ")[0].split(" ");
            int[] arguments = new int[words.length - 1];
            for (int k = 0; k < arguments.length; k++) {
                arguments[k] = Integer.parseInt(words[k + 1]);
            }
            int want = Integer.parseInt(line.split(" = ")[1]);
            HedgehogBorder x = States.make("well");
            due(line, Calls.answer(x, words[0], arguments), want);
            due(line + ": count(8)", x.count(8), -10 - want);
            same(line, "well", x);
        }
    }

    private static void aFindingTellsItsNumber() {
        HedgehogBorder x = new HedgehogBorder();
        due("before any", x.count(8), 0);
        x.undo(0);
        x.type(2, 0);
        due("a refusal that is none", x.count(8), 0);
        due("NULL", x.lose(0), -10 - 1);
        due("1 NULL", x.count(8), 1);
        x.sheet(0, 0, 1);
        x.sheet(1, 1, 1);
        due("it stays behind calls that find nothing", x.count(8), 1);
        due("INDEX", x.lay(0, 0, 1, 0), -10 - 2);
        due("2 INDEX", x.count(8), 2);
        due("CAST", x.lay(0, 1, 0, 0), -10 - 3);
        due("3 CAST", x.count(8), 3);
        due("STORE", x.copy(0, 0, 1, 0, 1), -10 - 4);
        due("4 STORE", x.count(8), 4);
        due("SIZE", x.sheet(0, 0, -1), -10 - 5);
        due("5 SIZE", x.count(8), 5);
        due("count(9) is BAD", x.count(9), BAD);
        due("and no FINDING", x.count(8), 5);
        due("the latest one", x.lose(2), -10 - 1);
        due("1 NULL again", x.count(8), 1);
    }

    private static void aLongTellsARefusal() {
        HedgehogBorder x = States.make("well");
        due("the least long and 2 more", x.cat(17, 0, 0, 0, 0), -9223372036854775806L);
        due("not the int", x.cat(0, 0, 5, 0, 1), -9223372036854775806L);
    }
}
