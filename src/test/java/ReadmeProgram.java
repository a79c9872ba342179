import java.io.IOException;
import java.nio.file.Files;
import java.nio.file.Path;
import java.util.ArrayList;
import java.util.List;
import java.util.regex.Matcher;
import java.util.regex.Pattern;

/** README.md's examples as one program, ReadmeRun, which holds what stands behind each call. */
public final class ReadmeProgram {
    /** A call alone in its line, perhaps kept, and what it answers: "int back = x.answer(0, 6, 9);  // 1: why". */
    private static final Pattern CALL = Pattern.compile("(?:int (\\w+) = )?(x\\.(\\w+)\\(.*\\)); +// (-?\\d+|[A-Z]+)(?:[: ].*)?");

    private ReadmeProgram() {
    }

    public static void main(String[] args) throws IOException {
        System.out.println("public final class ReadmeRun {\n    public static void main(String[] args) {");
        for (String line : examples()) {
            System.out.println("        " + held(line));
        }
        System.out.println("        Check.end();\n    }\n}");
    }

    /** The lines of README.md's blocks of Java. */
    static List<String> examples() throws IOException {
        List<String> found = new ArrayList<>();
        boolean isJava = false;
        for (String line : Files.readAllLines(Path.of("README.md"))) {
            if (line.startsWith("```")) {
                isJava = line.equals("```java");
            } else if (isJava) {
                found.add(line);
            }
        }
        return found;
    }

    /** The name of the call of which a line tells the answer; nothing, if it tells none. */
    static String callOf(String line) {
        Matcher m = CALL.matcher(line);
        return m.matches() ? m.group(3) : "";
    }

    private static String held(String line) {
        Matcher m = CALL.matcher(line);
        if (!m.matches()) {
            return line;
        }
        String due = m.group(4).matches("[A-Z]+") ? "AnswerPost." + m.group(4) : m.group(4);
        String told = "\"README.md: " + m.group(2) + "\"";
        if (m.group(1) == null) {
            return "Check.due(" + told + ", " + m.group(2) + ", " + due + ");";
        }
        return "int " + m.group(1) + " = " + m.group(2) + ";\n        Check.due(" + told + ", " + m.group(1) + ", " + due + ");";
    }
}
