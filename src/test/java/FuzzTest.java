import java.lang.reflect.InvocationTargetException;
import java.lang.reflect.Method;
import java.util.Arrays;
import java.util.Comparator;
import java.util.List;
import java.util.Random;

/** Long runs of calls with good, near and wild arguments, each answer held against the model's. */
public final class FuzzTest {
    private static final int RUNS = 3000;
    private static final int CALLS = 512;
    private static final int[] WILD = {
        Integer.MIN_VALUE, Integer.MAX_VALUE, -2, -1, 0, 1, 2, 3, 4, 5, 6, 7, 8, 9, 23, 24, 39, 40, 41,
        98, 99, 100, 101, 128, 199, 200, 201, 255, 256, 999, 1000, 40000, Integer.MAX_VALUE - 1
    };

    private final Random random;
    private final Method[] methods;
    private AnswerPost real;
    private Model model;
    private StringBuilder told;
    private long count;

    private FuzzTest(long seed) {
        random = new Random(seed);
        methods = Arrays.stream(AnswerPost.class.getDeclaredMethods())
            .filter(m -> java.lang.reflect.Modifier.isPublic(m.getModifiers()))
            .sorted(Comparator.comparing(Method::getName)).toArray(Method[]::new);
    }

    public static void main(String[] args) throws IllegalAccessException {
        FuzzTest fuzz = new FuzzTest(20261119);
        for (int run = 0; run < RUNS; run++) {
            if (!fuzz.run()) {
                Check.holds("run " + run, false);
                break;
            }
        }
        Check.holds("many calls", fuzz.count > RUNS);
        System.out.println(fuzz.count + " calls held against the model");
        Check.end();
    }

    private boolean run() throws IllegalAccessException {
        real = new AnswerPost();
        model = new Model();
        told = new StringBuilder();
        int made = 0;
        int wildness = random.nextInt(12) + 2;
        while (made < CALLS) {
            int before = made;
            if (made == 0 && random.nextInt(20) != 0 || random.nextInt(120) == 0) {
                made = writeText(made);
                if (made < 0) {
                    return false;
                }
            }
            if (made == before) {
                Method m = pick();
                boolean isSplit = m.getName().equals("split") && random.nextInt(4) != 0;
                if (isSplit && !writeScales() || !alike(m, arguments(m, wildness))) {
                    return false;
                }
                made += isSplit ? 8 : 1;
            }
        }
        return true;
    }

    /** What undoes the state is called more seldom, what builds it up more often. */
    private Method pick() {
        Method m = methods[random.nextInt(methods.length)];
        if (List.of("post", "sheet", "lose", "burn").contains(m.getName()) && random.nextInt(6) != 0) {
            m = methods[random.nextInt(methods.length)];
        }
        if (List.of("tell", "greet", "trace", "fault", "many", "ofPerson").contains(m.getName()) && random.nextInt(3) != 0) {
            m = named(random.nextInt(3) == 0 ? "send" : "answer");
        }
        return m;
    }

    /** A row of scales on the sheet that split is likely to ask for. */
    private boolean writeScales() throws IllegalAccessException {
        boolean fine = alike("sheet", 3, 2, 7);
        for (int i = 0; i < 6; i++) {
            fine &= alike("put", 3, i, random.nextInt(3) == 0 ? 1 + random.nextInt(200) : 1 + random.nextInt(30));
        }
        return fine;
    }

    private int writeText(int made) throws IllegalAccessException {
        StringBuilder text = new StringBuilder("p");
        int persons = 2 + random.nextInt(5);
        for (int p = 0; p < persons; p++) {
            int lift = random.nextInt(4) == 0 ? 40 : 1 + random.nextInt(40);
            text.append("wml".charAt(random.nextInt(3))).append(lift / 10).append(lift % 10);
        }
        if (random.nextInt(3) == 0) {
            text.setCharAt(random.nextInt(text.length()), "pwml0123456789 ".charAt(random.nextInt(15)));
        }
        if (random.nextInt(6) == 0) {
            text.setLength(random.nextInt(text.length()));
        }
        if (random.nextInt(6) == 0) {
            text.append("w01l4".substring(0, random.nextInt(6)));
        }
        int k = random.nextInt(4);
        int lane = random.nextInt(3);
        boolean fine = alike("sheet", k, lane, text.length());
        for (int i = 0; i < text.length(); i++) {
            fine &= alike("put", k, i, text.charAt(i));
        }
        fine &= alike("post", k, lane, 0, text.length());
        return fine ? made + 2 + text.length() : -1;
    }

    private boolean alike(String name, int... a) throws IllegalAccessException {
        return alike(named(name), a);
    }

    private Method named(String name) {
        for (Method m : methods) {
            if (m.getName().equals(name)) {
                return m;
            }
        }
        throw new IllegalArgumentException(name);
    }

    private boolean alike(Method m, int[] a) throws IllegalAccessException {
        count++;
        String call = m.getName() + Arrays.toString(a);
        long want = model.call(m.getName(), a);
        told.append(call).append(" = ").append(want).append('\n');
        try {
            Object got = m.invoke(real, Arrays.stream(a).boxed().toArray());
            if (((Number) got).longValue() == want) {
                return true;
            }
            System.out.println(told + "the last one answered " + got);
        } catch (InvocationTargetException e) {
            System.out.println(told + "the last one threw " + e.getCause());
        }
        return false;
    }

    private int[] arguments(Method m, int wildness) {
        int[] a = new int[m.getParameterCount()];
        for (int i = 0; i < a.length; i++) {
            a[i] = random.nextInt(wildness * 2) == 0 ? WILD[random.nextInt(WILD.length)] : 0;
            if (a[i] == 0) {
                a[i] = likely(m.getName(), i);
            }
        }
        if (m.getName().equals("split") && random.nextInt(4) != 0) {
            a[5] = 1 + of(6);
            a[4] = of(7 - a[5]);
            a[6] = of(a[5] + 1) - 1;
        }
        if (m.getName().equals("weights") && random.nextBoolean()) {
            a[3] = (int) model.call("paid", new int[] {a[1], a[2]}) - of(3) + 1;
        }
        return a;
    }

    private int of(int n) {
        return random.nextInt(n);
    }

    private int day() {
        return random.nextInt(2) == 0 ? of(100) : 50 + of(50);
    }

    /** A row of marks, one for each argument: what the argument is likely to be. */
    private static String marks(String name) {
        switch (name) {
            case "post": return "klcn";
            case "ofPerson", "as": return "p3";
            case "scale": return "pw";
            case "law", "many": return "3";
            case "send": return "ppwd";
            case "answer": return "jwd";
            case "ofLetter": return "j7";
            case "burn": return "2";
            case "paid", "net": return "pd";
            case "owes": return "ppd";
            case "settled": return "d";
            case "best": return "ps2";
            case "course": return "ppgfq";
            case "cost": return "ppgf2";
            case "split": return "pwtlcgq";
            case "least": return "pd2";
            case "weights": return "jpdvq";
            case "sheet": return "kln";
            case "lose", "tell", "greet": return name.equals("lose") ? "k" : "p";
            case "put": return "kcs";
            case "cell": return "kcl";
            case "copy": return "kckcm";
            default: return "";
        }
    }

    private int likely(String name, int i) {
        switch (marks(name).charAt(i)) {
            case 'p': return of(5);
            case 'k': return of(4);
            case 't': return of(4) == 0 ? of(4) : 3;
            case 'l': return of(8) == 0 ? of(3) : 2;
            case 'c': return of(3) == 0 ? of(20) : of(3);
            case 'n': return of(41);
            case 'm': return of(6);
            case 'w': return of(3) == 0 ? 1 + of(99) : 1 + of(24);
            case 'd': return day();
            case 'j': return of(3) == 0 ? of(24) : of(9);
            case 's': return of(2) == 0 ? 1 + of(200) : 1 + of(24);
            case 'g': return of(9);
            case 'f': return of(2) == 0 ? of(1000) : of(60);
            case 'q': return of(9) - 1;
            case 'v': return of(4) == 0 ? 0 : of(120);
            case '2': return of(2);
            case '3': return of(3);
            case '7': return of(7);
            default: return 0;
        }
    }
}
