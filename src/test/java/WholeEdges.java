/** What it is, the document's first sentences: each of them with a run of calls that shows it. */
final class WholeEdges {
    private static final String THREE = "pw20m12l15";

    private WholeEdges() {
    }

    static void hold() {
        personsAndLetters();
        silence();
        answers();
        lawsAndWeights();
        lastCalls();
    }

    /** Scales of 10 and 9: the answer of a miser who wrote 6. */
    private static Run paired() {
        return Run.of(THREE).due("send(0, 1, 10, 5) = 0", "answer(0, 6, 9) = 1");
    }

    private static void personsAndLetters() {
        Sentences.whatItIs("As heavy as the answer: people of kinds, told in a text, each lifts so much;");
        Run.of(THREE).due("many(0) = 3", "ofPerson(0, 0) = 0", "ofPerson(0, 1) = 20", "ofPerson(1, 0) = 1",
            "ofPerson(1, 1) = 12", "ofPerson(2, 0) = 2", "ofPerson(2, 1) = 15");
        Sentences.whatItIs("letters by weight and day, answers;");
        paired().due("ofLetter(0, 2) = 10", "ofLetter(0, 3) = 5", "ofLetter(0, 4) = 1", "ofLetter(1, 2) = 6",
            "ofLetter(1, 3) = 9", "ofLetter(1, 5) = 0");
        Sentences.whatItIs("the post weighs a letter against its answer, and by its law the lighter one pays for both, or the "
            + "heavier one, or each its own;");
        paired().due("ofLetter(0, 6) = 10", "ofLetter(1, 6) = 9", "paid(0, 9) = 0", "paid(1, 9) = 19", "law(1) = 0",
            "paid(0, 9) = 19", "paid(1, 9) = 0", "law(2) = 1", "paid(0, 9) = 10", "paid(1, 9) = 9");
        Sentences.whatItIs("what each paid by a day,");
        paired().due("paid(1, 5) = 0", "paid(1, 8) = 0", "paid(1, 9) = 19", "paid(1, 99) = 19", "paid(2, 99) = 0");
    }

    private static void silence() {
        Sentences.whatItIs("what is owed for silence, to whom, in the fewest payments;");
        // Behind person 1's answer 0 is silent, and 1 ahead of it; and 1 to person 2 all the time.
        paired().due("send(2, 1, 4, 7) = 2", "owes(1, 0, 8) = 30", "owes(1, 2, 8) = 9", "owes(0, 1, 8) = 0",
            "settled(8) = 2", "owes(1, 0, 10) = 0", "owes(0, 1, 10) = 9", "owes(1, 2, 10) = 27", "net(0, 10) = 999991",
            "net(1, 10) = 999982", "net(2, 10) = 1000027", "settled(10) = 2", "settled(5) = 0", "settled(6) = 1");
    }

    private static void answers() {
        Sentences.whatItIs("how heavy an answer is best;");
        Run.of(THREE).due("best(1, 10, 0) = 8", "best(1, 10, 1) = 0", "best(1, 15, 0) = 12", "best(1, 15, 1) = 15",
            "best(1, 16, 0) = 1", "best(1, 16, 1) = 20");
        Sentences.whatItIs("two who write back and forth, each by what comes then;");
        // A 2 would outweigh the first one's 1, too; but then it writes 2, and both pay. A 3 is more than it lifts.
        Run.of("pw02w03").due("course(0, 1, 3, 999, -1) = 3", "course(0, 1, 3, 999, 0) = 1", "course(0, 1, 3, 999, 1) = 3",
            "course(0, 1, 3, 999, 2) = 1", "cost(0, 1, 3, 999, 0) = 8", "cost(0, 1, 3, 999, 1) = 0");
        Sentences.whatItIs("a letter split into parts against answers that are expected;");
        Run.of(THREE).row(1, 5, 9).due("split(0, 10, 1, 2, 0, 2, -1) = 10", "split(0, 10, 1, 2, 0, 2, 0) = 9",
            "split(0, 10, 1, 2, 0, 2, 1) = 1");
    }

    private static void lawsAndWeights() {
        Sentences.whatItIs("the best law for one;");
        paired().due("least(0, 9, 0) = 0", "least(0, 9, 1) = 0", "least(1, 9, 0) = 1", "least(1, 9, 1) = 0");
        Sentences.whatItIs("how heavy a letter was, by what was paid.");
        paired().due("weights(0, 1, 9, 19, -1) = 1", "weights(0, 1, 9, 19, 0) = 10", "weights(0, 1, 9, 18, -1) = 0",
            "weights(0, 0, 9, 17, 0) = 8", "weights(0, 0, 9, 9, 0) = 9", "weights(0, 0, 9, 0, -1) = 90");
    }

    private static void lastCalls() {
        Sentences.whatItIs("An object is used for at most 512 calls after it has been made;");
        AnswerPost x = Posts.of("pw10m05");
        // So far 9 calls were made: a sheet, seven codes, a post.
        int trace = 0;
        for (int call = 10; call <= 510; call++) {
            Check.due(Sentences.now() + call, x.tell(0), 10);
            trace = 31 * trace + 1;
        }
        Check.due(Sentences.now() + "call 511", x.trace(), trace);
        Check.due(Sentences.now() + "call 512", x.post(0, 0, 0, 7), 2);
        // No answer is due any more; that a call comes back at all is a rule of the language.
        Sentences.whatItIs("what later calls answer is free.");
        for (int call = 513; call <= 600; call++) {
            x.tell(call % 3);
        }
    }
}
