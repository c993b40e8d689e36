import java.nio.file.Files;
import java.nio.file.Path;
import java.util.regex.Matcher;
import java.util.regex.Pattern;

/** What of LANGUAGE.md can be seen in the source by its letters; run from the project's folder. */
public final class LanguageTest {
    // Only what the rules rule out, not all that this class goes without.
    private static final String[] RULED_OUT = {"\\bfinally\\b", "(?m)^(?!\\s*(case|default)\\b).*->", "::",
        "\\bsynchronized\\b", "\\bassert\\b", "\\bprotected\\b", "\\bint hashCode\\(", "\\bString toString\\(",
        "\\bboolean equals\\(", "Exact\\b", "\\bstatic \\{", "\\bSystem\\.(?!arraycopy)",
        "\\bArrays\\.(?!fill|copyOf)", "\\bMath\\.(?!max|min|abs|floor|signum|clamp)", "\\bThread\\b", "\\bRandom\\b",
        "(?m)^package\\b", "\\bextends \\w*Exception\\b", "\\.getMessage\\(",
        "catch \\((NullPointer|ArrayIndexOutOfBounds|ClassCast|NegativeArraySize|ArrayStore)", "catch \\((Exception|Throwable|Error)\\b"};
    private static final String IMPORTS = "java\\.util\\.(Arrays|ArrayList|List|Iterator|NoSuchElementException)";
    private static final String THROWN = "new (IllegalState|IllegalArgument|IndexOutOfBounds|Arithmetic|UnsupportedOperation"
        + "|NoSuchElement|Runtime)Exception\\((\"[^\"]*\")?\\)";

    private static final Checks CHECKS = new Checks();

    private LanguageTest() {
    }

    public static void main(String[] args) throws Exception {
        String source = Files.readString(Path.of("src/main/java/PromisedStock.java"));
        String code = withoutWords(source);
        for (String pattern : RULED_OUT) {
            Matcher found = Pattern.compile(pattern).matcher(code);
            CHECKS.is("code with " + pattern, false, found.find());
        }
        Matcher imports = Pattern.compile("^import (.*);$", Pattern.MULTILINE).matcher(source);
        while (imports.find()) {
            CHECKS.is("import " + imports.group(1), true, imports.group(1).matches(IMPORTS));
        }
        Matcher thrown = Pattern.compile("\\bthrow ([^;]*);").matcher(source);
        while (thrown.find()) {
            CHECKS.is("throw " + thrown.group(1), true, thrown.group(1).matches(THROWN));
        }
        CHECKS.is("classes", true, code.split("\\bclass ").length - 1 <= 12);
        CHECKS.is("signs", true, source.chars().allMatch(c -> c == '\n' || c >= 32 && c < 127));
        methods(code);
        CHECKS.end();
    }

    // Comments and texts may say what code may not.
    private static String withoutWords(String source) {
        return source.replaceAll("(?s)/\\*.*?\\*/", "").replaceAll("//[^\n]*", "").replaceAll("\"[^\"\n]*\"", "\"\"");
    }

    private static void methods(String code) {
        Matcher method = Pattern.compile("(?m)^( +)(?:[a-z]+ )*[A-Za-z\\[\\]]+ ?[A-Za-z]*\\(([^()]*)\\)[^;{]*\\{\n((?:.*\n)*?)\\1\\}\n")
            .matcher(code);
        int found = 0;
        while (method.find()) {
            found++;
            int lines = method.group(3).split("\n").length;
            int parameters = method.group(2).isEmpty() ? 0 : method.group(2).split(",").length;
            String head = method.group().trim().split("\n")[0];
            CHECKS.is("lines of " + head + " " + lines, true, lines <= 60);
            CHECKS.is("parameters of " + head, true, parameters <= 7);
        }
        CHECKS.is("methods found: " + found, true, found >= 30);
    }
}
