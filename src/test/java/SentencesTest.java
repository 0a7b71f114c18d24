import java.io.IOException;
import java.nio.file.Files;
import java.nio.file.Path;
import java.util.ArrayList;
import java.util.HashMap;
import java.util.List;
import java.util.Map;
import java.util.regex.Matcher;
import java.util.regex.Pattern;

/** Each sentence of the document stands in SENTENCES.md, in its order, with tests that there are and that are run. */
public final class SentencesTest {
    private static final Check CHECK = new Check("SentencesTest");
    private static final Path DOCUMENT = Path.of("../shared/DOC.md");
    private static final Path SENTENCES = Path.of("src/test/SENTENCES.md");
    private static final Pattern ROW = Pattern.compile("\\| (.*) \\| (free|`\\w+\\.\\w+`(?:, `\\w+\\.\\w+`)*) \\|");
    private static final Pattern TEST = Pattern.compile("`(\\w+)\\.(\\w+)`");
    private static final Map<String, String> SOURCES = new HashMap<>();

    private SentencesTest() {
    }

    public static void main(String[] args) throws IOException {
        List<Matcher> rows = rows();
        noneIsLeftOut(rows);
        for (Matcher row : rows) {
            Matcher test = TEST.matcher(row.group(2));
            while (test.find()) {
                CHECK.due(test.group() + " is there and is run", isRun(test.group(1), test.group(2)) ? 1 : 0, 1);
            }
        }
        CHECK.end();
    }

    private static List<Matcher> rows() throws IOException {
        List<Matcher> rows = new ArrayList<>();
        for (String line : Files.readAllLines(SENTENCES)) {
            boolean isHead = line.equals("| sentence | held by |") || line.equals("| --- | --- |");
            if (line.startsWith("|") && !isHead) {
                Matcher row = ROW.matcher(line);
                CHECK.due("a row of SENTENCES.md with its tests: " + line, row.matches() ? 1 : 0, 1);
                if (row.matches()) {
                    rows.add(row);
                }
            }
        }
        return rows;
    }

    /** All sentences behind one another are the document, but for its headings and marks of blocks. */
    private static void noneIsLeftOut(List<Matcher> rows) throws IOException {
        StringBuilder told = new StringBuilder();
        for (Matcher row : rows) {
            told.append(row.group(1)).append(' ');
        }
        StringBuilder document = new StringBuilder();
        for (String line : Files.readAllLines(DOCUMENT)) {
            document.append(line.startsWith("#") || line.startsWith("```") ? "" : line).append(' ');
        }
        String want = document.toString().trim().replaceAll("\\s+", " ");
        String got = told.toString().trim();
        int same = 0;
        while (same < Math.min(want.length(), got.length()) && want.charAt(same) == got.charAt(same)) {
            same++;
        }
        if (!want.equals(got)) {
            String ahead = want.substring(Math.max(0, same - 40), same);
            System.out.println("SENTENCES.md parts from the document behind: " + ahead);
        }
        CHECK.due("the document, sentence by sentence", got.equals(want) ? 1 : 0, 1);
    }

    /** There is such a method, and something in its file calls it. */
    private static boolean isRun(String type, String method) throws IOException {
        if (!SOURCES.containsKey(type)) {
            Path file = Path.of("src/test/java", type + ".java");
            SOURCES.put(type, Files.exists(file) ? Files.readString(file) : "");
        }
        String source = SOURCES.get(type);
        boolean isThere = Pattern.compile("private static void " + method + "\\(").matcher(source).find();
        return isThere && Pattern.compile("(?<!void )\\b" + method + "\\(").matcher(source).find();
    }
}
