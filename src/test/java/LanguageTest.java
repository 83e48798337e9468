import java.io.IOException;
import java.nio.file.Files;
import java.nio.file.Path;
import java.util.Set;
import java.util.regex.Matcher;
import java.util.regex.Pattern;

/**
 * The rules of LANGUAGE.md that can be seen in the source's text. The work directory must be that
 * of the project.
 */
public final class LanguageTest extends Check {
    private static final Path SOURCE = Path.of("src", "main", "java", "PredictionMaker.java");

    /** What the class may not contain, outside comments and texts. */
    private static final String[] FORBIDDEN = {
        "throw", "throws", "try", "catch", "finally", "synchronized", "assert", "volatile",
        "transient", "native", "import", "package", "protected", "instanceof", "goto", "var",
        "Object", "hashCode", "toString", "getClass", "yield", "enum", "record", "interface",
    };

    /** The classes of the library that the class uses; LANGUAGE.md lists more. */
    private static final Set<String> LIBRARY = Set.of("Math", "System");

    public static void main(String[] args) throws IOException {
        String whole = Files.readString(SOURCE);
        isTrue("signs 1 to 127 alone", whole.chars().allMatch(c -> c == '\n' || c >= 32 && c < 127));
        String code = whole.replaceAll("(?s)/\\*.*?\\*/", "").replaceAll("//[^\n]*", "")
                .replaceAll("'.'", "''");
        for (String word : FORBIDDEN) {
            isTrue("no " + word, !Pattern.compile("\\b" + word + "\\b").matcher(code).find());
        }
        isTrue("no lambda", !code.contains("->"));
        isTrue("no method reference", !code.contains("::"));
        isTrue("no text", !code.contains("\""));
        isTrue("no annotation", !code.contains("@"));
        isTrue("nothing exact", !code.contains("Exact"));
        isTrue("no static block", !Pattern.compile("static\\s*\\{").matcher(code).find());
        isTrue("no list", !code.contains("List"));
        Matcher called = Pattern.compile("\\b([A-Z][a-z]\\w*)\\.").matcher(code);
        while (called.find()) {
            isTrue("library: " + called.group(1), LIBRARY.contains(called.group(1)));
        }
        Matcher loop = Pattern.compile("while\\s*\\(\\s*true|for\\s*\\(\\s*;|for \\([^;]*;\\s*;").matcher(code);
        isTrue("no loop without a bound", !loop.find());
        shortMethods(code);
        isTrue("objects are made by constructors alone", onlyConstructorsMake(code));
        end();
    }

    private static void shortMethods(String code) {
        int start = -1;
        String head = "";
        String[] lines = code.split("\n", -1);
        for (int i = 0; i < lines.length; i++) {
            if (lines[i].matches("( {4}| {8})[A-Za-z][\\w\\[\\]<> ]*\\(.*\\) \\{")) {
                start = i;
                head = lines[i].trim();
            }
            if (start >= 0 && lines[i].matches("( {4}| {8})\\}")) {
                isTrue(head + " is short", i - start < 60);
                start = -1;
            }
        }
    }

    private static boolean onlyConstructorsMake(String code) {
        boolean inConstructor = false;
        for (String line : code.split("\n")) {
            if (line.matches("( {4}| {8})[A-Za-z][\\w\\[\\]<> ]*\\(.*\\) \\{")) {
                inConstructor = line.trim().matches("(public )?[A-Z]\\w*\\(.*\\) \\{");
            }
            if (line.matches(".*\\bnew\\b.*") && !inConstructor) {
                System.out.println("makes an object: " + line);
                return false;
            }
        }
        return true;
    }
}
