import java.nio.file.Files;
import java.nio.file.Path;
import java.util.ArrayList;
import java.util.List;
import java.util.regex.Matcher;
import java.util.regex.Pattern;

/** Rules of LANGUAGE.md that the source itself shows. */
public final class LanguageTest {
    private static final String[] FORBIDDEN = {
        "\\bthrow\\b", "\\bthrows\\b", "\\btry\\b", "\\bcatch\\b", "\\bsynchronized\\b", "\\bassert\\b", "->", "::",
        "\\w+Exact\\(", "\\bprotected\\b", "\\bpackage\\b", "\\bObject\\b", "\\bgetClass\\b", "\\bhashCode\\b",
        "\\btoString\\b", "\\bwhile\\s*\\(\\s*true", "for\\s*\\(\\s*;\\s*;", "\\bMath\\.random\\b", "\\bThread\\b",
        "\\bRandom\\b", "\\bSystem\\.(?!arraycopy\\()", "\\bArrays\\.(?!fill\\(|copyOf\\(|copyOfRange\\()",
        "\\bstatic\\s*\\{", "import (?!java\\.util\\.Arrays;)"};
    private static final Pattern METHOD = Pattern.compile("^ {4,8}(?:public |private )?(?:static )?[\\w\\[\\]]+ (\\w+)\\(([^)]*)\\) \\{$");

    public static void main(String[] args) throws Exception {
        Due due = new Due("LanguageTest");
        String source = Files.readString(Path.of("src/main/java/BerthAges.java"));
        String code = source.replaceAll("(?s)/\\*.*?\\*/", "").replaceAll("//[^\n]*", "");
        for (String word : FORBIDDEN) {
            Matcher m = Pattern.compile(word).matcher(code);
            due.is("forbidden: " + word, m.find() ? 1 : 0, 0);
        }
        due.is("signs beyond 127", source.chars().filter(c -> c > 127).count(), 0);
        due.is("classes at most 12", Pattern.compile("\\bclass \\w+ \\{").matcher(code).results().count() <= 12 ? 1 : 0, 1);
        staticsAreFinal(due, code);
        methodsAreShort(due, code);
        due.end();
    }

    private static void staticsAreFinal(Due due, String code) {
        for (String line : code.split("\n")) {
            boolean isField = line.contains(" static ") && !line.contains("class ") && !line.strip().endsWith("{");
            if (isField) {
                due.is(line.strip(), line.contains(" static final ") ? 1 : 0, 1);
            }
        }
    }

    private static void methodsAreShort(Due due, String code) {
        List<String> names = new ArrayList<>();
        String[] lines = code.split("\n");
        for (int at = 0; at < lines.length; at++) {
            Matcher m = METHOD.matcher(lines[at]);
            if (!m.matches()) {
                continue;
            }
            String end = lines[at].replaceAll("\\S.*", "") + "}";
            int last = at;
            while (last < lines.length && !lines[last].equals(end)) {
                last++;
            }
            names.add(m.group(1));
            due.is(m.group(1) + " has at most 60 lines", last - at <= 60 ? 1 : 0, 1);
            due.is(m.group(1) + " takes at most 7", m.group(2).split(",").length <= 7 ? 1 : 0, 1);
        }
        due.is("methods are seen", names.size() > 60 ? 1 : 0, 1);
    }
}
