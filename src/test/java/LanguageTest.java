import java.io.IOException;
import java.nio.file.Files;
import java.nio.file.Path;
import java.util.List;
import java.util.regex.Matcher;
import java.util.regex.Pattern;

/** The words of the program's text that LANGUAGE.md rules out. */
public final class LanguageTest {
    private static final Check CHECK = new Check("LanguageTest");
    private static final Path PROGRAM = Path.of("src/main/java/DistinctDale.java");

    private static final List<String> RULED_OUT = List.of(
        "->", "::", "\\btry\\b", "\\bcatch\\b", "\\bfinally\\b", "\\bsynchronized\\b", "\\bassert\\b", "\\bpackage\\b",
        "\\bfloat\\b", "\\bdouble\\b", "Exact\\b", "\\bSystem\\.(?!arraycopy)", "\\bMath\\.(?!min\\(|max\\()",
        "\\bArrays\\.(?!copyOf\\()", "\\bimport (?!java\\.util\\.Arrays;)", "\\bjava\\.(?!util\\.Arrays;)",
        "\\bstatic \\{", "\\bequals\\b", "\\bhashCode\\b", "\\btoString\\b", "\\bObject\\b", "@");

    public static void main(String[] args) throws IOException {
        String code = withoutComments(Files.readString(PROGRAM));
        for (String pattern : RULED_OUT) {
            Matcher matcher = Pattern.compile(pattern).matcher(code);
            CHECK.text(pattern + " in the program", matcher.find() ? lineAround(code, matcher.start()) : "", "");
        }
        Matcher thrown = Pattern.compile("\\bthrow\\b[^;]*;").matcher(code);
        while (thrown.find()) {
            CHECK.due(thrown.group() + " is a plain throw",
                thrown.group().matches("throw new (IndexOutOfBounds|IllegalArgument)Exception\\((\"[^\"]*\")?\\);"), true);
        }
        methodsAreShort(code);
        CHECK.end();
    }

    /** A member of the class stands four blanks in, one of a class inside it eight. */
    private static void methodsAreShort(String code) {
        String[] lines = code.split("\n", -1);
        String indent = " {4}";
        int start = -1;
        for (int i = 0; i < lines.length; i++) {
            if (lines[i].matches(" {4}private static final class .*")) {
                indent = " {8}";
            } else if (lines[i].equals("    }") && start < 0) {
                indent = " {4}";
            } else if (lines[i].matches(indent + "\\S.*\\(.*[^;]")) {
                start = i;
            } else if (lines[i].matches(indent + "\\}") && start >= 0) {
                CHECK.due(lines[start].trim() + " has at most 60 lines", i - start < 60, true);
                start = -1;
            }
        }
    }

    private static String withoutComments(String text) {
        return text.replaceAll("(?s)/\\*.*?\\*/", "").replaceAll("//[^\n]*", "");
    }

    private static String lineAround(String text, int index) {
        int end = text.indexOf('\n', index);
        return text.substring(text.lastIndexOf('\n', index) + 1, end < 0 ? text.length() : end).trim();
    }
}
