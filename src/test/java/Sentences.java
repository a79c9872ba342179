import java.util.LinkedHashMap;
import java.util.Map;

/** The sentences of the document that tests hold: each stands there as it is told here, and none is left out. */
final class Sentences {
    private static final int PROMISES = 30;
    private static final Map<String, String> SECTIONS = Document.sections();
    private static final Map<String, boolean[]> HELD = new LinkedHashMap<>();
    private static String now = "";

    private Sentences() {
    }

    /** What the answers to come hold is a sentence of a promise. */
    static void promise(int number, String sentence) {
        hold("Promise " + number, "Promise " + number, sentence);
    }

    /** What the answers to come hold is a sentence of the terms, which counts for promises: "6, 7", "20 to 24". */
    static void terms(String promises, String sentence) {
        hold("Terms", "Terms, for the promises " + promises, sentence);
    }

    static void whatItIs(String sentence) {
        hold("What it is", "What it is", sentence);
    }

    /** Which sentence is held just now. */
    static String now() {
        return now;
    }

    /** Every word of what it is, of the terms and of the promises is in a sentence that was held. */
    static void noneIsLeftOut() {
        if (SECTIONS.isEmpty()) {
            return;
        }
        long promises = SECTIONS.keySet().stream().filter(heading -> heading.startsWith("Promise ")).count();
        Check.due("promises of the document", promises, PROMISES);
        leftOut("What it is");
        leftOut("Terms");
        for (int k = 1; k <= PROMISES; k++) {
            leftOut("Promise " + k);
        }
    }

    private static void hold(String section, String told, String sentence) {
        now = told + ", '" + sentence + "': ";
        if (SECTIONS.isEmpty()) {
            return;
        }
        String text = SECTIONS.getOrDefault(section, "");
        int at = text.indexOf(sentence);
        Check.holds(section + " tells '" + sentence + "'", at >= 0);
        boolean[] held = HELD.computeIfAbsent(section, s -> new boolean[text.length()]);
        for (; at >= 0; at = text.indexOf(sentence, at + 1)) {
            for (int i = at; i < at + sentence.length(); i++) {
                held[i] = true;
            }
        }
    }

    private static void leftOut(String section) {
        String text = SECTIONS.getOrDefault(section, "no such section");
        boolean[] held = HELD.getOrDefault(section, new boolean[text.length()]);
        StringBuilder left = new StringBuilder();
        for (int i = 0; i < text.length(); i++) {
            left.append(held[i] ? ' ' : text.charAt(i));
        }
        Check.holds(section + ": a test holds '" + left.toString().trim().replaceAll(" +", " ") + "'", left.toString().isBlank());
    }
}
