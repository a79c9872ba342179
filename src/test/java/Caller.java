import java.lang.reflect.InvocationTargetException;
import java.lang.reflect.Method;
import java.lang.reflect.Modifier;
import java.util.Arrays;
import java.util.HashMap;
import java.util.Map;

/** An object of the class whose calls are made by name, no more of them than the document allows. */
final class Caller {
    private static final int MOST_CALLS = 512;
    private static final Map<String, Method> METHODS = methods();

    private final AnswerPost x = new AnswerPost();
    private int calls;

    private static Map<String, Method> methods() {
        Map<String, Method> found = new HashMap<>();
        for (Method m : AnswerPost.class.getDeclaredMethods()) {
            if (Modifier.isPublic(m.getModifiers())) {
                found.put(m.getName(), m);
            }
        }
        return found;
    }

    long ask(String name, int... args) {
        calls++;
        if (calls > MOST_CALLS) {
            throw new IllegalStateException("a test makes more than " + MOST_CALLS + " calls of one object");
        }
        try {
            Object got = METHODS.get(name).invoke(x, Arrays.stream(args).boxed().toArray());
            return ((Number) got).longValue();
        } catch (InvocationTargetException | IllegalAccessException e) {
            throw new IllegalStateException(name + Arrays.toString(args) + " threw", e);
        }
    }

    /** All that can be seen of the object, but for fault(), which looking changes. */
    String seen() {
        StringBuilder told = new StringBuilder();
        for (int what = 0; what < 3; what++) {
            told.append(ask("many", what)).append(' ');
        }
        told.append("trace ").append(ask("trace"));
        for (int p = 0; p < 6; p++) {
            told.append(" person ").append(ask("ofPerson", p, 0)).append(' ').append(ask("ofPerson", p, 1));
        }
        long letters = ask("many", 1);
        for (int k = 0; k < letters; k++) {
            told.append(" letter");
            for (int what = 0; what < 7; what++) {
                told.append(' ').append(ask("ofLetter", k, what));
            }
        }
        for (int k = 0; k < 4; k++) {
            told.append(" sheet").append(sheet(k));
        }
        return told.toString();
    }

    /** The lane of a sheet and its cells; a row of no cells comes to an index in its own lane alone. */
    private String sheet(int k) {
        for (int lane = 0; lane < 3; lane++) {
            long first = ask("cell", k, 0, lane);
            long fault = first == Long.MIN_VALUE ? ask("fault") : 0;
            if (fault == 0 || fault == 3) {
                return " of lane " + lane + cells(k, lane);
            }
        }
        return " of nothing";
    }

    private String cells(int k, int lane) {
        StringBuilder told = new StringBuilder();
        long v = ask("cell", k, 0, lane);
        for (int i = 1; v != Long.MIN_VALUE && i <= 41; i++) {
            told.append(' ').append(v);
            v = ask("cell", k, i, lane);
        }
        return told.toString();
    }
}
