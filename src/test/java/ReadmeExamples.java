import java.io.IOException;
import java.lang.reflect.Method;
import java.lang.reflect.Modifier;
import java.nio.file.Files;
import java.nio.file.Path;
import java.util.List;
import java.util.Set;
import java.util.TreeSet;
import java.util.regex.Matcher;
import java.util.regex.Pattern;

/**
 * Prints a test, ReadmeExamplesTest, made of the examples in README.md: a line "x.call(..);  // 7: why" asks whether the
 * call answers 7; other lines are taken as they are. It fails if a call of the face is in no example, or has no answer.
 */
public final class ReadmeExamples {
    private static final Pattern ASKED = Pattern.compile("(x\\.([a-zA-Z]+)\\(.*\\));\\s*// (-?[0-9]+)(:.*)?");

    private final StringBuilder calls = new StringBuilder();
    private final StringBuilder bodies = new StringBuilder();
    private final Set<String> named = new TreeSet<>();
    private int examples = 0;

    public static void main(String[] args) throws IOException {
        ReadmeExamples made = new ReadmeExamples();
        made.take(Files.readAllLines(Path.of("README.md")));
        for (Method m : CandleHouse.class.getDeclaredMethods()) {
            if (Modifier.isPublic(m.getModifiers()) && !made.named.contains(m.getName())) {
                throw new IllegalStateException("README.md has no example of " + m.getName());
            }
        }
        made.print();
    }

    private void take(List<String> lines) {
        boolean inside = false;
        for (String line : lines) {
            if (line.equals("```java")) {
                inside = true;
                calls.append("        example").append(examples).append("();\n");
                bodies.append("    private static void example").append(examples).append("() {\n");
                examples++;
            } else if (line.equals("```") && inside) {
                inside = false;
                bodies.append("    }\n");
            } else if (inside) {
                bodies.append("        ").append(asked(line)).append('\n');
            }
        }
    }

    private String asked(String line) {
        Matcher m = ASKED.matcher(line);
        if (m.matches()) {
            named.add(m.group(2));
            return "DUE.is(\"" + m.group(1) + "\", " + m.group(1) + ", " + m.group(3) + "L);";
        }
        if (line.startsWith("x.")) {
            throw new IllegalStateException("README.md does not say what it answers: " + line);
        }
        return line;
    }

    private void print() {
        System.out.println("public final class ReadmeExamplesTest {");
        System.out.println("    private static final Due DUE = new Due(\"README.md\");\n");
        System.out.println("    public static void main(String[] args) {");
        System.out.print(calls);
        System.out.println("        DUE.end();\n    }\n");
        System.out.print(bodies);
        System.out.println("}");
    }
}
