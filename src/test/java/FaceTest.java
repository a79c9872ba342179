import java.io.IOException;
import java.lang.reflect.Field;
import java.lang.reflect.Method;
import java.lang.reflect.Modifier;
import java.nio.file.Files;
import java.nio.file.Path;
import java.util.ArrayList;
import java.util.Arrays;
import java.util.Collections;
import java.util.List;
import java.util.Map;
import java.util.regex.Matcher;
import java.util.regex.Pattern;

/** The public face as the document tells it, promise 1 (a new object), and how much room a new object takes. */
public final class FaceTest {
    private static final String[] FACE = {
        "int answer(int,int,int)", "int as(int,int)", "int best(int,int,int)", "int burn(int)",
        "int copy(int,int,int,int,int)", "int cost(int,int,int,int,int)", "int course(int,int,int,int,int)",
        "int fault()", "int greet(int)", "int law(int)", "int least(int,int,int)", "int lose(int)",
        "int many(int)", "int net(int,int)", "int ofLetter(int,int)", "int ofPerson(int,int)",
        "int owes(int,int,int)", "int paid(int,int)", "int post(int,int,int,int)", "int put(int,int,int)",
        "int scale(int,int)", "int send(int,int,int,int)", "int settled(int)", "int sheet(int,int,int)",
        "int split(int,int,int,int,int,int,int)", "int tell(int)", "int trace()",
        "int weights(int,int,int,int,int)", "long cell(int,int,int)"
    };

    public static void main(String[] args) throws IOException {
        String source = Files.readString(Path.of(args.length > 0 ? args[0] : "src/main/java/AnswerPost.java"));
        constants();
        members();
        constructor();
        if (Document.isThere()) {
            asTheDocumentTells(source);
            partsOfTheInterface(source);
        }
        newObject();
        room();
        Check.end();
    }

    private static void constants() {
        Check.due("UNKNOWN", AnswerPost.UNKNOWN, -1);
        Check.due("OUTSIDE", AnswerPost.OUTSIDE, -2);
        Check.due("STATE", AnswerPost.STATE, -3);
        Check.due("FULL", AnswerPost.FULL, -4);
        Check.due("NONE", AnswerPost.NONE, -9);
        Check.due("LOST", AnswerPost.LOST, Long.MIN_VALUE);
    }

    private static void members() {
        List<String> found = new ArrayList<>();
        List<String> hidden = new ArrayList<>();
        for (Method m : AnswerPost.class.getDeclaredMethods()) {
            if (Modifier.isPrivate(m.getModifiers())) {
                hidden.add(m.getName());
                continue;
            }
            Check.holds(m.getName() + " is public and of an object",
                Modifier.isPublic(m.getModifiers()) && !Modifier.isStatic(m.getModifiers()));
            String types = Arrays.toString(m.getParameterTypes()).replaceAll("[\\[\\] ]", "");
            found.add(m.getReturnType() + " " + m.getName() + "(" + types + ")");
        }
        Collections.sort(found);
        for (String name : FACE) {
            Check.holds("the face has " + name, found.contains(name));
        }
        Check.due("methods of the face", found.size(), FACE.length);
        for (String name : FACE) {
            String bare = name.substring(name.indexOf(' ') + 1, name.indexOf('('));
            Check.holds("no private method is named " + bare, !hidden.contains(bare));
        }
        for (Field f : AnswerPost.class.getDeclaredFields()) {
            boolean isConstant = f.getName().matches("UNKNOWN|OUTSIDE|STATE|FULL|NONE|LOST");
            Check.holds(f.getName() + " is seen as the document tells",
                isConstant ? Modifier.isPublic(f.getModifiers()) : Modifier.isPrivate(f.getModifiers()));
        }
    }

    private static void constructor() {
        Check.due("constructors", AnswerPost.class.getDeclaredConstructors().length, 1);
        Check.due("public constructors", AnswerPost.class.getConstructors().length, 1);
        Check.holds("the class is public and final",
            Modifier.isPublic(AnswerPost.class.getModifiers()) && Modifier.isFinal(AnswerPost.class.getModifiers()));
        for (Class<?> inside : AnswerPost.class.getDeclaredClasses()) {
            Check.holds(inside.getName() + " is static and not public",
                Modifier.isStatic(inside.getModifiers()) && !Modifier.isPublic(inside.getModifiers()));
        }
    }

    /** The document's first line, and each line of 'The public face' and at the head of a promise. */
    private static void asTheDocumentTells(String source) {
        Check.holds("the document is of " + Document.name(), AnswerPost.class.getName().equals(Document.name()));
        Check.holds("the class begins as told", source.contains("\n" + Document.head() + "\n"));
        List<String> face = Document.face();
        Check.due("lines of the face: two of constants, the constructor, the methods", face.size(), 3 + FACE.length);
        int at = 0;
        for (String line : face) {
            boolean isConstant = line.contains(" = ");
            String written = "\n    " + (isConstant ? line : line.replace(";", " {")) + "\n";
            int found = source.indexOf(written, at);
            Check.holds("the class has, in the document's order, " + line, found >= 0);
            at = Math.max(at, found);
        }
        List<String> heads = Document.heads();
        Check.due("heads of promises: the constructor, the methods", heads.size(), 1 + FACE.length);
        for (String head : heads) {
            Check.holds("the face has the promise's " + head, face.contains("public " + head + ";"));
        }
    }

    /** What the interface says ahead of calls: each part's methods stand behind its line, and no other ones. */
    private static void partsOfTheInterface(String source) {
        Map<String, List<String>> parts = Document.parts();
        Check.due("parts of the interface", parts.size(), 5);
        for (Map.Entry<String, List<String>> part : parts.entrySet()) {
            int from = source.indexOf("\n    // " + part.getKey() + "\n");
            Check.holds("the class says: " + part.getKey(), from >= 0);
            String behind = source.substring(Math.max(from, 0));
            int end = behind.indexOf("\n    // ---- ", 1);
            Matcher m = Pattern.compile("(?m)^    public \\w+ (\\w+)\\(").matcher(end < 0 ? behind : behind.substring(0, end));
            List<String> calls = new ArrayList<>();
            while (m.find()) {
                calls.add(m.group(1));
            }
            Check.holds(part.getKey() + ": " + part.getValue() + ", found " + calls, part.getValue().equals(calls));
        }
    }

    private static void newObject() {
        AnswerPost x = new AnswerPost();
        for (int what = 0; what < 3; what++) {
            Check.due("new: many(" + what + ")", x.many(what), 0);
        }
        Check.due("new: trace()", x.trace(), 0);
        Check.due("new: fault()", x.fault(), 0);
        for (int k = 0; k < 4; k++) {
            Check.due("new: lose(" + k + ")", x.lose(k), 0);
        }
        Check.due("new: ofPerson(0, 0)", x.ofPerson(0, 0), -1);
        Check.due("new: law(0)", x.law(0), -3);
        Check.due("new: settled(0)", x.settled(0), -3);
        Check.due("new: send(0, 1, 1, 0)", x.send(0, 1, 1, 0), -1);
        Check.due("new: burn(0)", x.burn(0), 0);
    }

    /** All calls of one run live in one room, so a new object has to be small. */
    private static void room() {
        Room taken = Room.of(new AnswerPost());
        System.out.println("a new object: " + taken.objects() + " objects and arrays, " + taken.parts() + " fields and elements");
        Check.holds("a new object takes few objects", taken.objects() <= 100);
        Check.holds("a new object takes few fields and elements", taken.parts() <= 3000);
    }
}
