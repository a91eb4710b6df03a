import java.io.IOException;
import java.nio.file.Files;
import java.nio.file.Path;
import java.util.List;
import java.util.regex.Matcher;
import java.util.regex.Pattern;

/** The rules of LANGUAGE.md that can be read off the text of BoxPool.java. */
public final class LanguageTest {
    private static final int LONGEST_METHOD = 60;
    private static final String[] RULED_OUT = {"->", "::", "\\btry\\b", "\\bcatch\\b", "\\bfinally\\b", "\\bsynchronized\\b",
        "\\bassert\\b", "\\bpackage\\b", "\\brecord\\b", "\\bvar\\b", "\\bequals\\s*\\(", "\\bhashCode\\b", "\\btoString\\b",
        "static\\s*\\{", "\\bThread\\b", "\\bRandom\\b", "\\bgetClass\\b", "\"\\s*\\+", "\\+\\s*\""};
    private static final List<String> IMPORTS = List.of("java.util.Arrays", "java.util.ArrayList", "java.util.List");
    private static final List<String> CALLS = List.of("Math.min", "Math.max", "Arrays.fill", "System.arraycopy");
    private static final Check CHECK = new Check("LanguageTest");

    public static void main(String[] args) throws IOException {
        String source = Files.readString(Path.of(args.length > 0 ? args[0] : "src/main/java/BoxPool.java"));
        String code = source.replaceAll("(?s)/\\*.*?\\*/", "").replaceAll("//[^\n]*", "");
        String bare = code.replaceAll("\"[^\"\n]*\"", "\"\"");
        for (String rule : RULED_OUT) {
            CHECK.same("found: " + rule, false, Pattern.compile(rule).matcher(bare).find());
        }
        allowed(bare, "import\\s+([\\w.*]+)\\s*;", IMPORTS);
        allowed(bare, "\\b((?:Math|Arrays|System|Integer|Long|String|Character|Boolean|List)\\.\\w+)", CALLS);
        allowed(bare, "throw new (\\w+)", List.of("IndexOutOfBoundsException", "IllegalArgumentException",
            "IllegalStateException"));
        CHECK.same("throws without new", count(bare, "\\bthrow\\b"), count(bare, "\\bthrow new \\w+\\("));
        CHECK.same("signs beyond 127", false, Pattern.compile("[^\\x00-\\x7f]").matcher(source).find());
        CHECK.same("classes inside, twelve at most", true, count(bare, "\\bclass\\b") <= 12);
        methodsAreShort(code);
        CHECK.finish();
    }

    private static int count(String text, String rule) {
        Matcher found = Pattern.compile(rule).matcher(text);
        int count = 0;
        while (found.find()) {
            count++;
        }
        return count;
    }

    private static void allowed(String text, String rule, List<String> allowed) {
        Matcher found = Pattern.compile(rule).matcher(text);
        while (found.find()) {
            CHECK.same("allowed: " + found.group(1), true, allowed.contains(found.group(1)));
        }
    }

    /** A method begins at a line that ends with ") {" or "Exception {" at a member's indent, and ends at its brace. */
    private static void methodsAreShort(String code) {
        String[] lines = code.split("\n");
        for (String indent : new String[] {"    ", "        "}) {
            int begun = -1;
            for (int i = 0; i < lines.length; i++) {
                boolean member = lines[i].startsWith(indent) && !lines[i].startsWith(indent + " ");
                if (member && lines[i].contains("(") && !lines[i].contains(";")) {
                    begun = i;
                } else if (lines[i].equals(indent + "}") && begun >= 0) {
                    CHECK.same("short: " + lines[begun].trim(), true, i - begun < LONGEST_METHOD);
                    begun = -1;
                }
            }
        }
    }
}
