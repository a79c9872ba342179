import java.util.Arrays;
import java.util.List;
import java.util.Set;
import java.util.regex.Matcher;
import java.util.regex.Pattern;

/** A call and its due answer, told as "send(0, 1, 99, 5) = 0" or, by the document's names, as "law(3) = OUTSIDE". */
record Line(String name, int[] args, String due) {
    private static final Pattern FORM = Pattern.compile("(\\w+)\\((.*)\\) = (-?\\w+)");
    private static final List<String> REFUSALS = List.of("UNKNOWN", "OUTSIDE", "STATE", "FULL");
    private static final List<String> FAULTS = List.of("NULL", "CAST", "INDEX", "SIZE");
    private static final Set<String> NAMING_FAULTS = Set.of("post", "split", "sheet", "put", "cell", "copy", "as");
    private static final Set<String> CHANGING =
        Set.of("post", "law", "send", "answer", "burn", "sheet", "lose", "put", "copy", "tell", "greet");

    static Line of(String told) {
        Matcher m = FORM.matcher(told);
        if (!m.matches()) {
            throw new IllegalArgumentException("no line: " + told);
        }
        int[] args = Arrays.stream(m.group(2).split(",")).filter(a -> !a.isBlank())
            .mapToInt(a -> number(a.trim())).toArray();
        return new Line(m.group(1), args, m.group(3));
    }

    private static int number(String told) {
        switch (told) {
            case "MAX": return Integer.MAX_VALUE;
            case "MIN": return Integer.MIN_VALUE;
            default: return Integer.parseInt(told);
        }
    }

    /** The due answer as a number: promise 23 alone answers a long, so it tells all of these as LOST. */
    long answer() {
        boolean isLost = name.equals("cell") && (REFUSALS.contains(due) || FAULTS.contains(due));
        if (isLost) {
            return Long.MIN_VALUE;
        }
        if (REFUSALS.contains(due)) {
            return -1 - REFUSALS.indexOf(due);
        }
        if (FAULTS.contains(due)) {
            return -11 - FAULTS.indexOf(due);
        }
        return due.equals("NONE") ? -9 : number(due);
    }

    /** Whether all has to be behind the call as it was ahead of it. */
    boolean leavesAll() {
        boolean isTextFault = name.equals("post") && answer() <= -100;
        return !CHANGING.contains(name) || REFUSALS.contains(due) || FAULTS.contains(due) || isTextFault;
    }

    /** What fault() tells behind the call. */
    int faultBehind(int before) {
        return NAMING_FAULTS.contains(name) ? 1 + FAULTS.indexOf(due) : before;
    }

    @Override
    public String toString() {
        return name + Arrays.toString(args).replace('[', '(').replace(']', ')');
    }
}
