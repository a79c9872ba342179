import java.io.IOException;
import java.nio.file.Files;
import java.nio.file.Path;
import java.util.ArrayList;
import java.util.Arrays;
import java.util.LinkedHashMap;
import java.util.List;
import java.util.Map;
import java.util.regex.Matcher;
import java.util.regex.Pattern;

/** The document that the class is held against, as a text; an empty one where it can't be read. */
final class Document {
    private static final Path PLACE = Path.of("../shared/DOC.md");
    private static final String TEXT = text();

    private Document() {
    }

    static boolean isThere() {
        return !TEXT.isEmpty();
    }

    /** The class's name, which is the document's first line. */
    static String name() {
        return TEXT.lines().findFirst().orElse("").replaceFirst("^# ", "");
    }

    /** The lines of the public face, without its braces. */
    static List<String> face() {
        List<String> found = new ArrayList<>();
        for (String line : first("(?s)## The public face\\s+```java\\n(.*?)```").split("\n")) {
            if (line.startsWith("    ")) {
                found.add(line.trim());
            }
        }
        return found;
    }

    /** The head of the class, as the public face begins. */
    static String head() {
        return first("(?s)## The public face\\s+```java\\n([^\\n]*)");
    }

    /** The line at the head of each promise: "int law(int v)". */
    static List<String> heads() {
        return all("(?m)^## Promise \\d+: .*\\n\\n`([^`]*)`:");
    }

    /** What the interface says ahead of calls ("---- 1 the post"), and the calls that it says so of. */
    static Map<String, List<String>> parts() {
        Map<String, List<String>> found = new LinkedHashMap<>();
        Matcher m = Pattern.compile("(?m)^Ahead of the calls (.*) the interface says: (---- .*)\\.$").matcher(TEXT);
        while (m.find()) {
            found.put(m.group(2), Arrays.asList(m.group(1).replace("`", "").split(", ")));
        }
        return found;
    }

    /** The sections by their headings, without what is not prose: a call's head, fences, the parts' names. */
    static Map<String, String> sections() {
        Map<String, String> found = new LinkedHashMap<>();
        for (String section : TEXT.isEmpty() ? new String[0] : TEXT.split("(?m)^## ")) {
            int end = section.indexOf('\n');
            String heading = section.substring(0, Math.max(end, 0)).replaceAll(":.*", "").trim();
            String text = section.substring(Math.max(end, 0)).replaceAll("(?m)^```.*$|^Ahead of .*$|^==== \\d", "")
                .replaceAll("(?s)\\A\\s*`[^`]*`:", "");
            found.put(heading, text.replaceAll("\\s+", " ").trim());
        }
        return found;
    }

    private static String first(String form) {
        List<String> found = all(form);
        return found.isEmpty() ? "" : found.get(0);
    }

    private static List<String> all(String form) {
        List<String> found = new ArrayList<>();
        Matcher m = Pattern.compile(form).matcher(TEXT);
        while (m.find()) {
            found.add(m.group(1));
        }
        return found;
    }

    private static String text() {
        if (!Files.isReadable(PLACE)) {
            System.out.println(PLACE + " is not there: nothing is held against it");
            return "";
        }
        try {
            return Files.readString(PLACE);
        } catch (IOException e) {
            throw new IllegalStateException(e);
        }
    }
}
