import java.io.IOException;
import java.lang.reflect.Method;
import java.lang.reflect.Modifier;
import java.nio.file.Files;
import java.nio.file.Path;
import java.util.ArrayList;
import java.util.List;
import java.util.Map;
import java.util.Set;
import java.util.TreeSet;
import java.util.regex.Matcher;
import java.util.regex.Pattern;
import java.util.stream.Stream;

/** README.md beside its examples, which are run: its numbers are the class's, and it leaves no call and no test out. */
public final class ReadmeTest {
    private static final Map<String, Long> CONSTANTS = Map.of("UNKNOWN", (long) AnswerPost.UNKNOWN,
        "OUTSIDE", (long) AnswerPost.OUTSIDE, "STATE", (long) AnswerPost.STATE, "FULL", (long) AnswerPost.FULL,
        "NONE", (long) AnswerPost.NONE, "LOST", AnswerPost.LOST);

    public static void main(String[] args) throws IOException {
        String page = Files.readString(Path.of("README.md"));
        examples();
        constants(page);
        faults(page);
        namingFaults(page);
        tests(page);
        Room taken = Room.of(new AnswerPost());
        Check.holds("README.md tells a new object's objects", page.contains(" " + taken.objects() + " objects and arrays"));
        Check.due("some 2,000 fields and elements", taken.parts() / 100, 20);
        Check.end();
    }

    /** Each call of the face is shown with an answer, and no call of the examples stands alone without one. */
    private static void examples() throws IOException {
        Set<String> shown = new TreeSet<>();
        for (String line : ReadmeProgram.examples()) {
            String call = ReadmeProgram.callOf(line);
            boolean isCall = line.matches("(int \\w+ = )?x\\..*");
            Check.holds("README.md tells what is answered: " + line, isCall != call.isEmpty());
            shown.add(call);
        }
        for (Method m : AnswerPost.class.getDeclaredMethods()) {
            if (Modifier.isPublic(m.getModifiers())) {
                Check.holds("README.md shows " + m.getName(), shown.contains(m.getName()));
            }
        }
    }

    /** "| `FULL` | -4 |" in the table, "`NONE` (-9)" in the words. */
    private static void constants(String page) {
        Set<String> told = new TreeSet<>();
        Matcher m = Pattern.compile("`([A-Z]+)` (?:\\| |\\()(-\\d+)").matcher(page);
        while (m.find()) {
            told.add(m.group(1));
            Check.due("README.md: " + m.group(1), Long.parseLong(m.group(2)), CONSTANTS.getOrDefault(m.group(1), 0L));
        }
        Check.holds("README.md tells all constants: " + told, told.equals(CONSTANTS.keySet()));
    }

    /** "| null: the sheet has nothing | -11 | 1 |", each of them as a run of calls answers. */
    private static void faults(String page) {
        AnswerPost x = Posts.of("pw10m05");
        int[] answers = {x.put(1, 0, 0), x.as(0, 1), x.put(0, 7, 0), x.sheet(0, 0, -1)};
        Matcher m = Pattern.compile("(?m)^\\| (null|cast|index|size): .* \\| (-\\d+) \\| (\\d) \\|$").matcher(page);
        List<String> told = new ArrayList<>();
        while (m.find()) {
            told.add(m.group(1));
            int number = Integer.parseInt(m.group(3));
            Check.due("README.md: " + m.group(1), number, told.size());
            Check.due("README.md: " + m.group(1), Long.parseLong(m.group(2)), answers[told.size() - 1]);
        }
        Check.holds("README.md tells all faults: " + told, told.equals(List.of("null", "cast", "index", "size")));
    }

    /** Just those calls that README.md says so of change what fault() tells. */
    private static void namingFaults(String page) {
        Matcher m = Pattern.compile("The calls that name faults \\(([^)]*)\\)").matcher(page);
        Check.holds("README.md tells the calls that name faults", m.find());
        Set<String> told = new TreeSet<>(List.of(m.group(1).replace("`", "").split(", ")));
        Set<String> found = new TreeSet<>();
        for (Method call : AnswerPost.class.getDeclaredMethods()) {
            if (Modifier.isPublic(call.getModifiers())) {
                Caller x = new Caller();
                x.ask("sheet", 0, 0, -1);
                x.ask(call.getName(), new int[call.getParameterCount()]);
                if (x.ask("fault") != 4) {
                    found.add(call.getName());
                }
            }
        }
        Check.holds("README.md: the calls that name faults are " + found, told.equals(found));
    }

    /** The table of tests has each test of the project, and no other one. */
    private static void tests(String page) throws IOException {
        Set<String> told = new TreeSet<>();
        Matcher m = Pattern.compile("(?m)^\\| `(\\w+Test)` \\|").matcher(page);
        while (m.find()) {
            told.add(m.group(1));
        }
        Set<String> found = new TreeSet<>();
        try (Stream<Path> files = Files.list(Path.of("src/test/java"))) {
            files.map(file -> file.getFileName().toString()).filter(name -> name.endsWith("Test.java"))
                .forEach(name -> found.add(name.replace(".java", "")));
        }
        Check.holds("README.md tells of " + told + ", there are " + found, told.equals(found));
    }
}
