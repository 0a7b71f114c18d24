import java.io.IOException;
import java.lang.reflect.Field;
import java.lang.reflect.Member;
import java.lang.reflect.Method;
import java.lang.reflect.Modifier;
import java.nio.file.Files;
import java.nio.file.Path;
import java.util.HashSet;
import java.util.Set;
import java.util.TreeSet;
import java.util.regex.Matcher;
import java.util.regex.Pattern;

/** The rules of LANGUAGE.md that can be seen by a look at the class or its text. */
public final class LanguageTest {
    private static final Check CHECK = new Check("LanguageTest");
    private static final String SOURCE = "src/main/java/HedgehogBorder.java";
    private static final String FACE = "int type(int,int)|int wipe(int)|int undo(int)|int fault(int)|int cell(int)|"
        + "int house(int,int)|int set(int,int)|int bowl(int,int)|int dog(int,int)|int back(int)|int read(int)|"
        + "int at(int,int)|int goes(int)|int line(int,int)|int realm(int,int)|int lies(int,int)|int changes(int)|"
        + "int taxes(int,int)|int first(int)|int layOut(int,int,int,int)|int rake(int,int,int)|int live(int,int)|"
        + "int seen(int,int,int)|int forget()|int never()|int began()|int ask(int)|long cat(int,int,int,int,int)|"
        + "int roam(int,int,int)|int sheet(int,int,int)|int lose(int)|int lay(int,int,int,int)|int get(int,int,int)|"
        + "int copy(int,int,int,int,int)|int write(int,int)|int count(int)|long digest()";

    private LanguageTest() {
    }

    public static void main(String[] args) throws IOException {
        face();
        for (Class<?> inside : HedgehogBorder.class.getDeclaredClasses()) {
            CHECK.due("static: " + inside, Modifier.isStatic(inside.getModifiers()) ? 1 : 0, 1);
            members(inside);
        }
        members(HedgehogBorder.class);
        CHECK.due("twelve classes at most", Math.max(11, HedgehogBorder.class.getDeclaredClasses().length), 11);
        everyClassHasAName();
        text();
        CHECK.end();
    }

    private static void face() {
        Set<String> want = new TreeSet<>(Set.of(FACE.split("\\|")));
        Set<String> got = new TreeSet<>();
        for (Method method : HedgehogBorder.class.getDeclaredMethods()) {
            if (!Modifier.isPrivate(method.getModifiers())) {
                StringBuilder told = new StringBuilder();
                for (Class<?> type : method.getParameterTypes()) {
                    told.append(told.length() == 0 ? "" : ",").append(type);
                }
                got.add(method.getReturnType() + " " + method.getName() + "(" + told + ")");
            }
        }
        if (!got.equals(want)) {
            System.out.println("the face is " + got);
        }
        CHECK.due("the face", got.equals(want) ? 1 : 0, 1);
        CHECK.due("public and final", HedgehogBorder.class.getModifiers(), Modifier.PUBLIC | Modifier.FINAL);
        CHECK.due("one constructor", HedgehogBorder.class.getDeclaredConstructors().length, 1);
    }

    private static void members(Class<?> of) {
        Set<String> faceNames = new HashSet<>();
        for (Method method : HedgehogBorder.class.getMethods()) {
            faceNames.add(method.getName());
        }
        int fields = 0;
        for (Field field : of.getDeclaredFields()) {
            fields += Modifier.isStatic(field.getModifiers()) ? 0 : 1;
            boolean isConstant = Set.of("NONE", "BAD", "NOT", "FULL").contains(field.getName());
            CHECK.due("hidden: " + field, isHidden(field) || isConstant ? 1 : 0, 1);
            boolean isSteady = !Modifier.isStatic(field.getModifiers()) || Modifier.isFinal(field.getModifiers());
            CHECK.due("static is final: " + field, isSteady ? 1 : 0, 1);
            boolean isPlain = field.getType().isPrimitive() || !Modifier.isStatic(field.getModifiers());
            CHECK.due("static is a number: " + field, isPlain ? 1 : 0, 1);
        }
        CHECK.due("twenty fields at most: " + of, Math.max(20, fields), 20);
        for (Method method : of.getDeclaredMethods()) {
            CHECK.due("seven parameters at most: " + method, Math.max(7, method.getParameterCount()), 7);
            if (isHidden(method)) {
                CHECK.due("a name of its own: " + method, faceNames.contains(method.getName()) ? 1 : 0, 0);
            }
        }
    }

    /** The compiler numbers classes that are local or have no name. */
    private static void everyClassHasAName() {
        CHECK.due("no local class and none without a name",
            HedgehogBorder.class.getResource("HedgehogBorder$1.class") == null ? 1 : 0, 1);
    }

    private static boolean isHidden(Member member) {
        return Modifier.isPrivate(member.getModifiers());
    }

    private static void text() throws IOException {
        String code = Files.readString(Path.of(SOURCE)).replaceAll("(?s)/\\*.*?\\*/", "").replaceAll("//[^\n]*", "");
        for (String word : new String[] {"throw", "throws", "try", "catch", "finally", "synchronized", "assert",
            "package", "Random", "Object", "Exact\\w*", "equals", "hashCode", "toString", "protected", "volatile",
            "native"}) {
            Matcher matcher = Pattern.compile("\\b" + word + "\\b").matcher(code);
            CHECK.due("no " + word, matcher.find() ? 1 : 0, 0);
        }
        CHECK.due("no lambda", code.contains("->") ? 1 : 0, 0);
        CHECK.due("no method reference", code.contains("::") ? 1 : 0, 0);
        CHECK.due("no joining by +", code.contains("\"") ? 1 : 0, 0);
        library(code);
        methodLines(code);
    }

    private static void library(String code) {
        Set<String> allowed = Set.of("Arrays.fill", "System.arraycopy", "Math.max", "Math.min", "Integer.bitCount",
            "Long.bitCount");
        Matcher matcher = Pattern.compile("\\b(Arrays|System|Math|Integer|Long|String|Character)\\.\\w+").matcher(code);
        while (matcher.find()) {
            boolean isImport = code.startsWith("import java.util.", Math.max(0, matcher.start() - 17));
            CHECK.due("library: " + matcher.group(), allowed.contains(matcher.group()) || isImport ? 1 : 0, 1);
        }
        Matcher imports = Pattern.compile("import [^;]+;").matcher(code);
        while (imports.find()) {
            CHECK.due(imports.group(), imports.group().equals("import java.util.Arrays;") ? 1 : 0, 1);
        }
    }

    /** A method's lines are those from its head to the brace that closes it, by its indentation. */
    private static void methodLines(String code) {
        String[] lines = code.split("\n");
        for (int i = 0; i < lines.length; i++) {
            Matcher head = Pattern.compile("^(    |        )(public|private)[^=;]*\\(.*\\{$").matcher(lines[i]);
            if (head.matches()) {
                int end = i;
                while (end < lines.length && !lines[end].equals(head.group(1) + "}")) {
                    end++;
                }
                CHECK.due("sixty lines at most: " + lines[i].trim(), Math.max(60, end - i + 1), 60);
            }
        }
    }
}
