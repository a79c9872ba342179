/** Promises 18 and 19 and part 4 of the terms, sentence by sentence, on both sides of their bounds. */
final class LawEdges {
    private LawEdges() {
    }

    static void hold() {
        leastTerms();
        weightTerms();
        least();
        weights();
        weightsRefused();
    }

    /** Two pairs of person 0: as the lighter one (its s, the answer's a) and as the heavier one. */
    private static Run pairs(int s, int a, int heavy, int light) {
        return Run.of("pw40w40").due("send(0, 1, " + s + ", 0) = 0", "answer(0, " + a + ", 0) = 1",
            "send(0, 1, " + heavy + ", 0) = 2", "answer(2, " + light + ", 0) = 3");
    }

    private static void leastTerms() {
        Sentences.terms("18", "LEAST LAW of a PERSON by a DAY: that of 0 .. 2 by which it PAID the least: of several the least.");
        // By law 0 person 0 pays s + a, by law 1 heavy + light, by law 2 s + heavy.
        Run.of("pw40w40").due("law(2) = 0", "least(0, 0, 0) = 0", "least(0, 0, 1) = 0");
        pairs(5, 50, 10, 5).due("least(0, 0, 0) = 1", "least(0, 0, 1) = 15");
        pairs(5, 50, 10, 6).due("least(0, 0, 0) = 2", "least(0, 0, 1) = 15");
        pairs(5, 50, 10, 4).due("least(0, 0, 0) = 1", "least(0, 0, 1) = 14");
        pairs(5, 20, 20, 10).due("least(0, 0, 0) = 0", "least(0, 0, 1) = 25");
        pairs(5, 21, 20, 10).due("least(0, 0, 0) = 2", "least(0, 0, 1) = 25");
        pairs(5, 19, 20, 10).due("least(0, 0, 0) = 0", "least(0, 0, 1) = 24");
        pairs(5, 10, 11, 4).due("least(0, 0, 0) = 0", "least(0, 0, 1) = 15");
        pairs(5, 11, 11, 4).due("least(0, 0, 0) = 1", "least(0, 0, 1) = 15");
        pairs(5, 9, 11, 4).due("least(0, 0, 0) = 0", "least(0, 0, 1) = 14");
        Run.of("pw40w40").due("send(0, 1, 7, 0) = 0", "answer(0, 7, 0) = 1", "least(0, 0, 0) = 0", "least(0, 0, 1) = 7");
    }

    private static void weightTerms() {
        Sentences.terms("19", "WEIGHT of a LETTER that is ANSWERED: those of 1 .. 99, in place of what was written");
        Run run = Run.of("pw20w12").due("send(0, 1, 10, 5) = 0", "answer(0, 99, 9) = 1", "law(2) = 0",
            "weights(0, 0, 9, 0, -1) = 0", "weights(0, 0, 9, 1, 0) = 1", "weights(0, 0, 9, 1, -1) = 1",
            "weights(0, 0, 9, 99, 0) = 99", "weights(0, 0, 9, 100, -1) = 0", "weights(0, 1, 9, 99, 0) = 1",
            "weights(0, 1, 9, 99, 98) = 99", "weights(0, 1, 9, 99, 99) = NONE", "paid(0, 9) = 10", "ofLetter(0, 2) = 10");
        Sentences.terms("19", "(in the PAIR in which it is the ANSWER, too),");
        run = Run.of("pw20w12").due("send(0, 1, 10, 5) = 0", "answer(0, 20, 6) = 1", "answer(1, 30, 7) = 2", "law(2) = 0",
            "weights(1, 1, 7, 50, 0) = 25", "weights(1, 1, 7, 50, -1) = 1", "weights(1, 1, 7, 51, -1) = 0",
            "weights(1, 1, 6, 51, 0) = 51", "weights(1, 1, 5, 0, -1) = 99", "weights(1, 0, 7, 40, -1) = 99");
        Sentences.terms("19", "by which a PERSON PAID so much by a DAY: how many; the k-th.");
        // By law 0, below 10 it pays 2 w and 40, at 10 10 and 40, from there to 29 w and 30, at 30 30, beyond it nothing.
        run.due("law(0) = 2", "weights(1, 1, 7, 50, -1) = 3", "weights(1, 1, 7, 50, 0) = 5", "weights(1, 1, 7, 50, 1) = 10",
            "weights(1, 1, 7, 50, 2) = 20", "weights(1, 1, 7, 50, 3) = NONE", "weights(1, 1, 7, 30, 0) = 30",
            "weights(1, 1, 7, 30, -1) = 1", "weights(1, 1, 7, 59, 0) = 29", "weights(1, 1, 7, 0, 0) = 31",
            "weights(1, 1, 7, 0, -1) = 69", "weights(1, 1, 7, 0, 68) = 99", "weights(1, 1, 7, 0, 69) = NONE",
            "weights(1, 0, 7, 10, 0) = 10", "weights(1, 0, 7, 30, 0) = 20");
    }

    private static void least() {
        Sentences.promise(18, "LEAST LAW by a DAY: the LAW (what 0), what it PAID by it (1).");
        Run run = Run.of("pw40w40").due("send(0, 1, 5, 3) = 0", "answer(0, 9, 7) = 1", "law(2) = 0", "least(0, 6, 0) = 0",
            "least(0, 6, 1) = 0", "least(0, 7, 0) = 1", "least(0, 7, 1) = 0", "least(1, 7, 0) = 0", "least(1, 7, 1) = 0",
            "answer(1, 8, 8) = 2", "least(1, 7, 1) = 0", "least(1, 8, 1) = 0", "least(0, 8, 0) = 1", "many(2) = 2");
        Sentences.promise(18, "UNKNOWN;");
        run.due("least(-1, 7, 0) = UNKNOWN", "least(2, 7, 0) = UNKNOWN", "least(MIN, 7, 0) = UNKNOWN",
            "least(MAX, 7, 0) = UNKNOWN");
        Sentences.promise(18, "OUTSIDE.");
        run.due("least(0, -1, 0) = OUTSIDE", "least(0, 0, 0) = 0", "least(0, 99, 0) = 1", "least(0, 100, 0) = OUTSIDE",
            "least(0, MIN, 0) = OUTSIDE", "least(0, MAX, 0) = OUTSIDE", "least(0, 7, -1) = OUTSIDE", "least(0, 7, 2) = OUTSIDE",
            "least(0, 7, MIN) = OUTSIDE", "least(0, 7, MAX) = OUTSIDE");
    }

    private static void weights() {
        Sentences.promise(19, "WEIGHTS: how many (k -1), the k-th, rising; NONE: there are fewer.");
        Run run = Run.of("pw20w12").due("send(0, 1, 10, 5) = 0", "answer(0, 10, 9) = 1");
        // Lighter than 10 it pays w and 10, at 10 10, heavier nothing.
        run.due("weights(0, 0, 9, 10, -1) = 1", "weights(0, 0, 9, 10, 0) = 10", "weights(0, 0, 9, 10, 1) = NONE",
            "weights(0, 0, 9, 11, 0) = 1", "weights(0, 0, 9, 19, 0) = 9", "weights(0, 0, 9, 20, -1) = 0",
            "weights(0, 0, 9, 20, 0) = NONE", "weights(0, 0, 9, 0, -1) = 89", "weights(0, 0, 9, 0, 0) = 11",
            "weights(0, 0, 9, 0, 1) = 12", "weights(0, 0, 9, 0, 88) = 99", "weights(0, 0, 9, 0, 89) = NONE",
            "weights(0, 0, 9, 0, MAX) = NONE", "weights(0, 0, 9, -1, -1) = 0", "weights(0, 0, 9, MIN, 0) = NONE",
            "weights(0, 0, 9, MAX, -1) = 0", "weights(0, 1, 9, 0, -1) = 9", "weights(0, 1, 9, 21, 0) = 11",
            "weights(0, 1, 9, 109, 0) = 99", "weights(0, 0, 8, 0, -1) = 99", "weights(0, 0, 8, 0, 0) = 1",
            "weights(0, 0, 8, 0, 98) = 99", "weights(0, 0, 8, 0, 99) = NONE", "weights(0, 0, 8, 10, -1) = 0");
        // A scale shows no 5 for a lawyer, but 4 for 1 and 6 for 2.
        Run.of("pl20w12").due("send(0, 1, 10, 5) = 0", "answer(0, 99, 6) = 1", "law(2) = 0", "weights(0, 0, 6, 4, 0) = 1",
            "weights(0, 0, 6, 5, -1) = 0", "weights(0, 0, 6, 6, 0) = 2", "weights(0, 0, 6, 151, 0) = 99");
    }

    private static void weightsRefused() {
        Sentences.promise(19, "UNKNOWN: LETTER, PERSON, k below -1;");
        Run run = Run.of("pw20w12").due("send(0, 1, 10, 5) = 0", "answer(0, 10, 9) = 1", "answer(1, 10, 9) = 2");
        run.due("weights(-1, 0, 9, 0, -1) = UNKNOWN", "weights(3, 0, 9, 0, -1) = UNKNOWN", "weights(24, 0, 9, 0, -1) = UNKNOWN",
            "weights(MIN, 0, 9, 0, -1) = UNKNOWN", "weights(MAX, 0, 9, 0, -1) = UNKNOWN", "weights(1, -1, 9, 0, -1) = UNKNOWN",
            "weights(1, 2, 9, 0, -1) = UNKNOWN", "weights(1, MIN, 9, 0, -1) = UNKNOWN", "weights(1, MAX, 9, 0, -1) = UNKNOWN",
            "weights(0, 0, 9, 0, -2) = UNKNOWN", "weights(0, 0, 9, 0, MIN) = UNKNOWN", "weights(0, 0, 9, 20, -1) = 1",
            "weights(0, 0, 9, 20, 0) = 10");
        Sentences.promise(19, "OUTSIDE: day;");
        run.due("weights(0, 0, -1, 0, -1) = OUTSIDE", "weights(0, 0, 0, 0, -1) = 99", "weights(0, 0, 99, 20, -1) = 1",
            "weights(0, 0, 100, 0, -1) = OUTSIDE", "weights(0, 0, MIN, 0, -1) = OUTSIDE", "weights(0, 0, MAX, 0, -1) = OUTSIDE");
        Sentences.promise(19, "STATE: the LETTER is not ANSWERED.");
        run.due("weights(2, 0, 9, 0, -1) = STATE", "weights(2, 1, 0, 0, 0) = STATE", "weights(1, 0, 0, 0, -1) = 99",
            "burn(1) = 2", "weights(1, 0, 9, 0, -1) = STATE", "weights(0, 0, 9, 10, -1) = 1", "burn(1) = 1",
            "weights(0, 0, 9, 10, -1) = STATE", "send(1, 0, 3, 9) = 1", "weights(0, 0, 9, 10, -1) = STATE",
            "weights(1, 0, 9, 10, -1) = STATE");
    }
}
