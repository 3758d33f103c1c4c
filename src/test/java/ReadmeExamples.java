import java.io.IOException;
import java.lang.reflect.Method;
import java.lang.reflect.Modifier;
import java.nio.file.Files;
import java.nio.file.Path;
import java.util.List;
import java.util.regex.Matcher;
import java.util.regex.Pattern;

/**
 * Prints the source of ReadmeProgram, which runs the Java examples of README.md: a line "call;  // number" is a check
 * that the call answers this number. Fails if a line of an example says no answer or a public method has no example.
 */
final class ReadmeExamples {
    private static final Pattern LINE = Pattern.compile("(.+);\\s+// (-?\\d+)(?:[: ].*)?");
    private static final String NEW = "AvoidColours x = new AvoidColours();";

    private final StringBuilder members = new StringBuilder();
    private final StringBuilder main = new StringBuilder();
    private int examples;

    private ReadmeExamples() {
    }

    public static void main(String[] args) throws IOException {
        List<String> lines = Files.readAllLines(Path.of("README.md"));
        ReadmeExamples made = new ReadmeExamples();
        int start = -1;
        for (int i = 0; i < lines.size(); i++) {
            String line = lines.get(i);
            if (line.equals("```java")) {
                start = i + 1;
            } else if (line.equals("```") && start >= 0) {
                made.block(lines, start, i);
                start = -1;
            }
        }
        made.needsAllMethods();
        System.out.print(made.program());
    }

    private void block(List<String> lines, int start, int end) {
        boolean example = lines.get(start).equals(NEW);
        if (example) {
            examples++;
            main.append("        example").append(examples).append("();\n");
            members.append("    private static void example").append(examples).append("() {\n");
        }
        for (int i = start; i < end; i++) {
            members.append(example && i > start ? check(lines.get(i), i + 1) : lines.get(i)).append('\n');
        }
        members.append(example ? "    }\n" : "");
    }

    private static String check(String line, int place) {
        Matcher m = LINE.matcher(line);
        if (!m.matches()) {
            throw new IllegalStateException("README.md, line " + place + " says no answer: " + line);
        }
        String call = m.group(1);
        String told = "README.md, line " + place + ": " + call.replace("\"", "\\\"");
        return "        Check.same(\"" + told + "\", " + call + ", " + m.group(2) + "L);";
    }

    private void needsAllMethods() {
        for (Method m : AvoidColours.class.getDeclaredMethods()) {
            if (Modifier.isPublic(m.getModifiers()) && members.indexOf(", x." + m.getName() + "(") < 0) {
                throw new IllegalStateException("README.md has no example of " + m.getName() + "()");
            }
        }
    }

    private String program() {
        return "final class ReadmeProgram {\n" + members + "    public static void main(String[] args) {\n" + main
            + "        Check.end(\"ReadmeProgram\");\n    }\n}\n";
    }
}
