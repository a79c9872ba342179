import java.lang.reflect.Array;
import java.lang.reflect.Field;
import java.lang.reflect.Method;
import java.lang.reflect.Modifier;
import java.util.ArrayDeque;
import java.util.ArrayList;
import java.util.Arrays;
import java.util.Collections;
import java.util.Deque;
import java.util.IdentityHashMap;
import java.util.List;
import java.util.Map;

/** The public face, promise 1 (a new object), and how much room a new object takes. */
public final class FaceTest {
    private static final String[] FACE = {
        "int answer(int,int,int)", "int as(int,int)", "int best(int,int,int)", "int burn(int)",
        "int copy(int,int,int,int,int)", "int cost(int,int,int,int,int)", "int course(int,int,int,int,int)",
        "int fault()", "int greet(int)", "int law(int)", "int least(int,int,int)", "int lose(int)",
        "int many(int)", "int net(int,int)", "int ofLetter(int,int)", "int ofPerson(int,int)",
        "int owes(int,int,int)", "int paid(int,int)", "int post(int,int,int,int)", "int put(int,int,int)",
        "int scale(int,int)", "int send(int,int,int,int)", "int settled(int)", "int sheet(int,int,int)",
        "int split(int,int,int,int,int,int,int)", "int tell(int)", "int trace()",
        "int weights(int,int,int,int,int)", "long cell(int,int,int)"
    };

    public static void main(String[] args) throws IllegalAccessException {
        constants();
        members();
        newObject();
        room();
        Check.end();
    }

    private static void constants() {
        Check.due("UNKNOWN", AnswerPost.UNKNOWN, -1);
        Check.due("OUTSIDE", AnswerPost.OUTSIDE, -2);
        Check.due("STATE", AnswerPost.STATE, -3);
        Check.due("FULL", AnswerPost.FULL, -4);
        Check.due("NONE", AnswerPost.NONE, -9);
        Check.due("LOST", AnswerPost.LOST, Long.MIN_VALUE);
    }

    private static void members() {
        List<String> found = new ArrayList<>();
        List<String> hidden = new ArrayList<>();
        for (Method m : AnswerPost.class.getDeclaredMethods()) {
            if (Modifier.isPrivate(m.getModifiers())) {
                hidden.add(m.getName());
                continue;
            }
            Check.holds(m.getName() + " is public and of an object",
                Modifier.isPublic(m.getModifiers()) && !Modifier.isStatic(m.getModifiers()));
            String types = Arrays.toString(m.getParameterTypes()).replaceAll("[\\[\\] ]", "");
            found.add(m.getReturnType() + " " + m.getName() + "(" + types + ")");
        }
        Collections.sort(found);
        for (String name : FACE) {
            Check.holds("the face has " + name, found.contains(name));
        }
        Check.due("methods of the face", found.size(), FACE.length);
        for (String name : FACE) {
            String bare = name.substring(name.indexOf(' ') + 1, name.indexOf('('));
            Check.holds("no private method is named " + bare, !hidden.contains(bare));
        }
        for (Field f : AnswerPost.class.getDeclaredFields()) {
            boolean isConstant = f.getName().matches("UNKNOWN|OUTSIDE|STATE|FULL|NONE|LOST");
            Check.holds(f.getName() + " is seen as the document tells",
                isConstant ? Modifier.isPublic(f.getModifiers()) : Modifier.isPrivate(f.getModifiers()));
        }
    }

    private static void newObject() {
        AnswerPost x = new AnswerPost();
        for (int what = 0; what < 3; what++) {
            Check.due("new: many(" + what + ")", x.many(what), 0);
        }
        Check.due("new: trace()", x.trace(), 0);
        Check.due("new: fault()", x.fault(), 0);
        for (int k = 0; k < 4; k++) {
            Check.due("new: lose(" + k + ")", x.lose(k), 0);
        }
        Check.due("new: ofPerson(0, 0)", x.ofPerson(0, 0), -1);
        Check.due("new: law(0)", x.law(0), -3);
        Check.due("new: settled(0)", x.settled(0), -3);
        Check.due("new: send(0, 1, 1, 0)", x.send(0, 1, 1, 0), -1);
        Check.due("new: burn(0)", x.burn(0), 0);
    }

    /** All calls of one run live in one room, so a new object has to be small. */
    private static void room() throws IllegalAccessException {
        Map<Object, Boolean> seen = new IdentityHashMap<>();
        Deque<Object> open = new ArrayDeque<>();
        open.add(new AnswerPost());
        int parts = 0;
        while (!open.isEmpty()) {
            Object one = open.pop();
            if (seen.put(one, true) != null) {
                continue;
            }
            if (one.getClass().isArray()) {
                parts += Array.getLength(one);
                if (one instanceof Object[] row) {
                    Arrays.stream(row).filter(r -> r != null).forEach(open::add);
                }
                continue;
            }
            for (Class<?> c = one.getClass(); c != Object.class; c = c.getSuperclass()) {
                for (Field f : c.getDeclaredFields()) {
                    if (Modifier.isStatic(f.getModifiers())) {
                        continue;
                    }
                    parts++;
                    f.setAccessible(true);
                    if (!f.getType().isPrimitive() && f.get(one) != null) {
                        open.add(f.get(one));
                    }
                }
            }
        }
        System.out.println("a new object: " + seen.size() + " objects and arrays, " + parts + " fields and elements");
        Check.holds("a new object takes few objects", seen.size() <= 100);
        Check.holds("a new object takes few fields and elements", parts <= 3000);
    }
}
