import java.lang.reflect.Method;
import java.nio.file.Files;
import java.nio.file.Path;
import java.util.HashSet;
import java.util.Set;
import java.util.regex.Matcher;
import java.util.regex.Pattern;

/** README.md holds: what its program answers, and that it tells of every call; run from the project's folder. */
public final class ReadmeTest {
    private static final Checks CHECKS = new Checks();

    private ReadmeTest() {
    }

    public static void main(String[] args) throws Exception {
        String readme = Files.readString(Path.of("README.md"));
        program(readme);
        tellsOfCalls(readme);
        tellsOfTests(readme);
        CHECKS.end();
    }

    /** Each line of the program is a call with its answer behind it, up to a colon or the line's end. */
    private static void program(String readme) throws Exception {
        CHECKS.part("program");
        Matcher block = Pattern.compile("```java\n(.*?)```", Pattern.DOTALL).matcher(readme);
        CHECKS.is("there is one", true, block.find());
        Matcher line = Pattern.compile("(?m)^stock\\.(\\w+)\\((.*)\\);(?: +// (-?\\w+).*)?$").matcher(block.group(1));
        PromisedStock stock = new PromisedStock();
        int answers = 0;
        while (line.find()) {
            Object answer = call(stock, line.group(1), line.group(2));
            if (line.group(3) != null) {
                CHECKS.is(line.group(), line.group(3), String.valueOf(answer));
                answers++;
            }
        }
        CHECKS.is("answers: " + answers, true, answers >= 5);
    }

    private static Object call(PromisedStock stock, String name, String told) throws Exception {
        String[] words = told.isEmpty() ? new String[0] : told.split(", ");
        Class<?>[] types = new Class<?>[words.length];
        Object[] values = new Object[words.length];
        for (int i = 0; i < words.length; i++) {
            boolean truth = words[i].equals("true") || words[i].equals("false");
            types[i] = truth ? boolean.class : int.class;
            values[i] = truth ? (Object) Boolean.valueOf(words[i])
                : words[i].endsWith("NONE") ? (Object) PromisedStock.NONE : (Object) Integer.decode(words[i]);
        }
        return PromisedStock.class.getMethod(name, types).invoke(stock, values);
    }

    private static void tellsOfCalls(String readme) {
        CHECKS.part("calls");
        Set<String> told = new HashSet<>();
        Matcher row = Pattern.compile("(?m)^\\| `(\\w+)\\(([^)]*)\\)`").matcher(readme);
        while (row.find()) {
            int parameters = row.group(2).isEmpty() ? 0 : row.group(2).split(",").length;
            told.add(row.group(1) + " " + parameters);
        }
        Set<String> due = new HashSet<>();
        for (Method method : PromisedStock.class.getMethods()) {
            if (method.getDeclaringClass() == PromisedStock.class) {
                due.add(method.getName() + " " + method.getParameterCount());
            }
        }
        CHECKS.is("all that there are", due, told);
    }

    private static void tellsOfTests(String readme) throws Exception {
        CHECKS.part("tests");
        try (var files = Files.newDirectoryStream(Path.of("src/test/java"), "*Test.java")) {
            for (Path file : files) {
                String name = file.getFileName().toString().replace(".java", "");
                CHECKS.is("tells of " + name, true, readme.contains("`" + name + "`"));
            }
        }
    }
}
