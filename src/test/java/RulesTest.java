import java.io.IOException;
import java.nio.file.Files;
import java.nio.file.Path;
import java.util.Arrays;
import java.util.List;
import java.util.Set;
import java.util.TreeSet;
import java.util.regex.Matcher;
import java.util.regex.Pattern;

/** Those rules of LANGUAGE.md that can be seen in the text of the class: a guard against slips, no proof. */
public final class RulesTest {
    private static final Set<String> KNOWN_CALLS = Set.of("System.arraycopy", "Math.max", "Math.min");
    private static final List<String> BARRED = List.of(
        "import", "package", "throw", "throws", "try", "catch", "synchronized", "assert", "protected", "native",
        "volatile", "transient", "var", "float", "double", "Object", "Exception", "Thread", "Class", "System.out",
        "ArrayStoreException", "getClass", "hashCode", "toString", "equals", "yield", "default ->");

    public static void main(String[] args) throws IOException {
        String source = Files.readString(Path.of(args.length > 0 ? args[0] : "src/main/java/AnswerPost.java"));
        String code = bare(source);
        Check.holds("signs of 1 to 126 alone", source.chars().allMatch(c -> c == '\n' || c >= 32 && c < 127));
        for (String word : BARRED) {
            Check.holds("no " + word, !Pattern.compile("\\b" + Pattern.quote(word) + "\\b").matcher(code).find());
        }
        for (String sign : List.of("->", "::", "@", "\"")) {
            Check.holds("no " + sign, !code.contains(sign));
        }
        classes(code);
        library(code);
        methods(code);
        loops(code);
        Check.end();
    }

    /** The code without comments; a sign in quotes becomes one that can't be a brace. */
    private static String bare(String source) {
        String code = source.replaceAll("(?s)/\\*.*?\\*/", "").replaceAll("//[^\n]*", "");
        return code.replaceAll("'[^']'", "'?'");
    }

    private static void classes(String code) {
        Matcher m = Pattern.compile("([\\w ]*)\\b(class|interface|enum|record) \\w+").matcher(code);
        int count = 0;
        while (m.find()) {
            count++;
            String kind = m.group(1).trim();
            Check.holds("'" + kind + "' before a class", count == 1 ? kind.equals("public final")
                : Set.of("private static final", "private static", "private static abstract").contains(kind));
        }
        Check.holds(count + " classes", count <= 12);
        Matcher statics = Pattern.compile("static (?!final|class|int\\b[^=;]*\\(|boolean\\b[^=;]*\\(|\\w+ \\w+\\()").matcher(code);
        Check.holds("static fields are final", !statics.find());
    }

    private static void library(String code) {
        Matcher m = Pattern.compile("\\b[A-Z][a-z]\\w*\\.\\w+(?=\\()").matcher(code);
        Set<String> foreign = new TreeSet<>();
        while (m.find()) {
            if (!KNOWN_CALLS.contains(m.group()) && !m.group().startsWith("Text.")) {
                foreign.add(m.group());
            }
        }
        Check.holds("no other library: " + foreign, foreign.isEmpty());
    }

    private static void methods(String code) {
        Pattern head = Pattern.compile("^ +(?:[\\w\\[\\]]+ )*(\\w+)\\(([^()]*)\\) \\{$");
        String[] lines = code.split("\n");
        int found = 0;
        for (int i = 0; i < lines.length; i++) {
            Matcher m = head.matcher(lines[i]);
            if (!m.matches() || lines[i].matches(" *(if|for|while|switch|\\} else).*")) {
                continue;
            }
            found++;
            String indent = lines[i].replaceAll("\\S.*", "");
            int end = i;
            while (!lines[end].equals(indent + "}")) {
                end++;
            }
            Check.holds(m.group(1) + " is short", end - i <= 60);
            long parameters = Arrays.stream(m.group(2).split(",")).filter(s -> !s.isBlank()).count();
            Check.holds(m.group(1) + " takes at most seven", parameters <= 7);
        }
        Check.holds("methods found", found >= 60);
    }

    /** Every loop here counts against a bound in its own head. */
    private static void loops(String code) {
        Check.holds("no while", !Pattern.compile("\\bwhile\\b").matcher(code).find());
        Matcher m = Pattern.compile("\\bfor \\(([^;]*);([^;]*);([^\n]*)\\) \\{").matcher(code);
        int found = 0;
        while (m.find()) {
            found++;
            Check.holds("a bound: " + m.group(), m.group(2).matches(".*(<|<=|>|>=) .*"));
            Check.holds("a step: " + m.group(), m.group(3).trim().matches("\\w+(\\+\\+|--)"));
        }
        Check.due("loops with a bound", found, code.split("\\bfor \\(", -1).length - 1);
    }
}
