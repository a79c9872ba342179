/** Promises 6 to 13 and part 2 of the terms, sentence by sentence, on both sides of their bounds. */
final class LetterEdges {
    private static final String FOUR = "pw20m12l15w08";

    private LetterEdges() {
    }

    static void hold() {
        howManyLetters();
        letters();
        answers();
        laws();
        paidByADay();
        open();
        owesAndNet();
        settledTerms();
        send();
        answer();
        ofLetter();
        burn();
        paid();
        owes();
        net();
        settled();
    }

    private static void howManyLetters() {
        Sentences.terms("6, 7, 9, 30", "LETTERS, 24 at most, numbered by how many there are ahead (the first one is 0):");
        Run run = Run.of(FOUR).due("ofLetter(0, 0) = UNKNOWN", "send(0, 1, 5, 5) = 0", "ofLetter(0, 0) = 0",
            "ofLetter(1, 0) = UNKNOWN", "answer(0, 5, 5) = 1", "send(2, 3, 5, 5) = 2").fill(22);
        run.due("send(1, 2, 3, 4) = 22", "answer(22, 3, 4) = 23", "many(1) = 24", "send(1, 2, 3, 4) = FULL",
            "answer(23, 3, 4) = FULL", "ofLetter(23, 5) = 22", "ofLetter(24, 0) = UNKNOWN", "burn(1) = 23",
            "send(3, 0, 7, 8) = 23", "send(3, 0, 7, 8) = FULL");
    }

    private static void letters() {
        Sentences.terms("6, 7, 8", "from a PERSON to another one, so heavy (1 .. 99, whatever LIFT is), on a DAY (0 .. 99).");
        Run run = Run.of("pw01m40").due("send(0, 1, 0, 0) = OUTSIDE", "send(0, 1, 1, 0) = 0", "send(0, 1, 2, 0) = 1",
            "send(0, 1, 99, 0) = 2", "send(0, 1, 100, 0) = OUTSIDE", "send(1, 0, 40, 0) = 3", "send(1, 0, 41, 0) = 4",
            "send(1, 0, 99, 99) = 5", "send(1, 0, 99, 100) = OUTSIDE", "send(1, 0, 99, -1) = OUTSIDE",
            "send(1, 1, 9, 9) = UNKNOWN", "ofLetter(2, 2) = 99", "ofLetter(5, 3) = 99", "ofLetter(4, 2) = 41");
        run.due("answer(2, 99, 99) = 6", "answer(3, 2, 0) = 7", "ofLetter(6, 2) = 99", "ofLetter(7, 2) = 2");
    }

    private static void answers() {
        Sentences.terms("7, 8", "An ANSWER is a LETTER from whom one came, to whom wrote it, on no earlier DAY;");
        // (That is: from whom a letter came to.)
        Run run = Run.of(FOUR).due("send(2, 1, 7, 50) = 0", "answer(0, 8, 49) = OUTSIDE", "answer(0, 8, 50) = 1",
            "ofLetter(1, 0) = 1", "ofLetter(1, 1) = 2", "ofLetter(1, 3) = 50", "answer(1, 8, 49) = OUTSIDE",
            "answer(1, 9, 51) = 2", "ofLetter(2, 0) = 2", "ofLetter(2, 1) = 1", "answer(2, 9, 50) = OUTSIDE",
            "answer(2, 9, 99) = 3", "answer(3, 9, 98) = OUTSIDE", "answer(3, 9, 99) = 4");
        Sentences.terms("7, 8, 9", "a LETTER has one ANSWER at most (an ANSWER can be ANSWERED likewise).");
        run.due("answer(0, 8, 50) = STATE", "answer(1, 8, 51) = STATE", "answer(3, 1, 99) = STATE", "ofLetter(0, 4) = 1",
            "ofLetter(1, 4) = 2", "ofLetter(4, 4) = NONE", "answer(4, 1, 99) = 5", "burn(1) = 5", "answer(4, 2, 99) = 5",
            "answer(4, 2, 99) = STATE");
    }

    /** A letter of scale 10 against answers whose scales are 9, 10 and 11: what both pay. */
    private static void laws() {
        Sentences.terms("5, 10, 14 to 19", "A PAIR is a LETTER and its ANSWER; by the LAW its SCALES s, a make:");
        pays(0, "LAW 0: the lighter one's writer pays s and a together;", new int[][] {{0, 19}, {10, 10}, {21, 0}});
        pays(1, "LAW 1: the heavier one's;", new int[][] {{19, 0}, {10, 10}, {0, 21}});
        pays(0, "(if they are alike, each its own by both LAWS);", new int[][] {{0, 19}, {10, 10}, {21, 0}});
        pays(1, "(if they are alike, each its own by both LAWS);", new int[][] {{19, 0}, {10, 10}, {0, 21}});
        pays(2, "LAW 2: each its own.", new int[][] {{10, 9}, {10, 10}, {10, 11}});
        // Alike by their scales: a lawyer's 1 and a miser's 1, of which the weights are alike, too, and a writer's 4.
        for (int v = 0; v < 3; v++) {
            Run.of("pw20m12l15").due("law(" + v + ") = 0", "send(2, 1, 1, 0) = 0", "answer(0, 1, 0) = 1",
                "send(0, 2, 4, 0) = 2", "answer(2, 1, 0) = 3", "paid(0, 0) = 4", "paid(1, 0) = 4", "paid(2, 0) = 8");
        }
    }

    private static void pays(int law, String sentence, int[][] both) {
        Sentences.terms("5, 10, 14 to 19", sentence);
        for (int k = 0; k < 3; k++) {
            Run.of("pw20m12l15").due("send(0, 1, 10, 5) = 0", "answer(0, " + (6 + k) + ", 9) = 1", "law(" + law + ") = 0",
                "paid(0, 9) = " + both[k][0], "paid(1, 9) = " + both[k][1], "paid(2, 9) = 0");
        }
    }

    private static void paidByADay() {
        Sentences.terms("10, 18, 19", "PAID by a DAY: by a PERSON of all PAIRS of which the ANSWER is of that DAY or earlier.");
        Run run = Run.of("pw20m12l15").due("law(2) = 0", "send(0, 1, 10, 5) = 0", "paid(0, 5) = 0", "paid(0, 99) = 0",
            "answer(0, 6, 9) = 1", "paid(0, 5) = 0", "paid(0, 8) = 0", "paid(1, 8) = 0", "paid(0, 9) = 10",
            "paid(1, 9) = 9", "paid(0, 10) = 10", "paid(2, 99) = 0");
        run.due("answer(1, 4, 30) = 2", "paid(0, 29) = 10", "paid(0, 30) = 14", "paid(1, 29) = 9", "paid(1, 30) = 18",
            "send(1, 0, 1, 0) = 3", "answer(3, 50, 0) = 4", "paid(0, 0) = 50", "paid(1, 0) = 4", "paid(0, 30) = 64",
            "send(1, 0, 1, 99) = 5", "answer(5, 1, 99) = 6", "paid(0, 98) = 64", "paid(0, 99) = 65", "paid(1, 98) = 22",
            "paid(1, 99) = 26", "burn(1) = 6", "paid(0, 99) = 64");
    }

    private static void open() {
        Sentences.terms("11, 12, 13", "A LETTER is OPEN on a DAY, if it is of that DAY or earlier and no ANSWER is;");
        Run run = Run.of("pw20m12l15").due("send(0, 1, 10, 5) = 0", "owes(1, 0, 4) = 0", "owes(1, 0, 6) = 10",
            "owes(1, 0, 8) = 30", "owes(1, 0, 9) = 40", "answer(0, 6, 9) = 1", "owes(1, 0, 4) = 0", "owes(1, 0, 6) = 10",
            "owes(1, 0, 8) = 30", "owes(1, 0, 9) = 0", "owes(1, 0, 10) = 0", "owes(1, 0, 99) = 0", "owes(0, 1, 8) = 0",
            "owes(0, 1, 9) = 0", "owes(0, 1, 10) = 9", "burn(1) = 1", "owes(1, 0, 9) = 40", "owes(0, 1, 10) = 0");
        run.due("send(2, 1, 1, 0) = 1", "answer(1, 1, 0) = 2", "owes(1, 2, 0) = 0", "owes(1, 2, 1) = 0",
            "owes(1, 2, 99) = 0", "owes(2, 1, 0) = 0", "owes(2, 1, 1) = 4", "answer(2, 1, 99) = 3", "owes(2, 1, 98) = 392",
            "owes(2, 1, 99) = 0", "owes(1, 2, 99) = 0");
        Sentences.terms("11, 12, 13", "for each DAY since it was written its SCALE is owed by whom it came to, to whom wrote it:");
        run = Run.of("pw20m12l15").due("send(2, 0, 11, 98) = 0", "owes(0, 2, 97) = 0", "owes(0, 2, 98) = 0",
            "owes(0, 2, 99) = 19", "owes(2, 0, 99) = 0", "send(1, 0, 2, 99) = 1", "owes(0, 1, 99) = 0",
            "send(1, 2, 2, 0) = 2", "owes(2, 1, 0) = 0", "owes(2, 1, 1) = 5", "owes(2, 1, 2) = 10", "owes(2, 1, 99) = 495",
            "owes(1, 2, 99) = 0");
    }

    private static void owesAndNet() {
        Sentences.terms("11", "OWES of a PERSON to another one: of all OPEN ones;");
        Run run = Run.of("pw20m12l15").due("send(0, 1, 10, 0) = 0", "send(0, 1, 7, 1) = 1", "send(0, 2, 3, 0) = 2",
            "send(1, 0, 1, 0) = 3", "owes(1, 0, 0) = 0", "owes(1, 0, 1) = 10", "owes(1, 0, 2) = 27", "owes(2, 0, 2) = 6",
            "owes(0, 1, 2) = 8", "owes(0, 2, 2) = 0", "owes(1, 2, 2) = 0", "answer(0, 1, 2) = 4", "owes(1, 0, 2) = 7");
        Sentences.terms("12", "NET of a PERSON: what is owed to it by all, less what it OWES all.");
        run.due("net(0, 0) = 1000000", "net(0, 1) = 1000009", "net(1, 1) = 999994", "net(2, 1) = 999997",
            "net(0, 2) = 1000005", "net(1, 2) = 1000001", "net(2, 2) = 999994");
    }

    private static void settledTerms() {
        Sentences.terms("13", "SETTLED: the fewest payments (each of any sum, from one PERSON to another one) by which, behind "
            + "them, none owes anything any more:");
        Run run = Run.of("pw20w20w20w20w20w20").due("settled(99) = 0", "send(0, 1, 99, 0) = 0", "settled(0) = 0",
            "settled(1) = 1", "settled(99) = 1", "send(1, 2, 99, 0) = 1", "settled(1) = 1", "send(2, 0, 98, 0) = 2",
            "settled(1) = 1", "burn(1) = 2", "send(2, 0, 99, 0) = 2", "settled(1) = 0");
        Sentences.terms("13", "PERSONS of whom NET is not 0 less the most groups into which these can be parted so that NETS of "
            + "each group make 0.");
        // Nets of 5, -5, then 7, -7, then 9, -9: a group each.
        run = Run.of("pw20w20w20w20w20w20").due("send(0, 1, 5, 0) = 0", "send(2, 3, 7, 0) = 1", "settled(1) = 2",
            "send(4, 5, 9, 0) = 2", "settled(1) = 3", "send(1, 3, 1, 0) = 3", "settled(1) = 4", "send(3, 5, 1, 0) = 4",
            "settled(1) = 4", "burn(2) = 3", "send(5, 1, 1, 0) = 3", "settled(1) = 4");
        // Nets of 6, 1, -4, -2, -1 and one that is left out: 6 with -4 and -2, and 1 with -1.
        Run.of("pw20w20w20w20w20w20").due("send(0, 2, 4, 0) = 0", "send(0, 3, 1, 0) = 1", "send(0, 4, 1, 0) = 2",
            "send(1, 3, 1, 0) = 3", "settled(1) = 3", "net(5, 1) = 1000000", "net(3, 1) = 999998", "net(1, 1) = 1000001");
        // No sum of some is 0 but that of all: 1, 2, 4, 8, 16 and -31; then 16 gives way to 15, so that -15 does.
        Run.of("pw20w20w20w20w20w20").due("send(0, 5, 1, 0) = 0", "send(1, 5, 2, 0) = 1", "send(2, 5, 4, 0) = 2",
            "send(3, 5, 8, 0) = 3", "send(4, 5, 16, 0) = 4", "settled(1) = 5", "burn(1) = 4", "settled(1) = 4",
            "burn(1) = 3", "settled(1) = 3", "burn(1) = 2", "settled(1) = 2", "burn(1) = 1", "settled(1) = 1",
            "burn(1) = 0", "settled(1) = 0");
    }

    private static void send() {
        Sentences.promise(6, "A LETTER: its number.");
        Run run = Run.of(FOUR).due("send(0, 1, 1, 0) = 0", "send(3, 2, 99, 99) = 1", "burn(1) = 1", "send(1, 0, 5, 5) = 1");
        Sentences.promise(6, "UNKNOWN: PERSONS (they are one: so, too);");
        run.due("send(-1, 0, 1, 0) = UNKNOWN", "send(4, 0, 1, 0) = UNKNOWN", "send(0, -1, 1, 0) = UNKNOWN",
            "send(0, 4, 1, 0) = UNKNOWN", "send(4, 4, 1, 0) = UNKNOWN", "send(0, 0, 1, 0) = UNKNOWN",
            "send(3, 3, 1, 0) = UNKNOWN", "send(MIN, 0, 1, 0) = UNKNOWN", "send(0, MAX, 1, 0) = UNKNOWN",
            "send(3, 0, 1, 0) = 2", "send(0, 3, 1, 0) = 3");
        Sentences.promise(6, "OUTSIDE: weight, day;");
        run.due("send(0, 1, 0, 0) = OUTSIDE", "send(0, 1, 1, 0) = 4", "send(0, 1, 99, 0) = 5", "send(0, 1, 100, 0) = OUTSIDE",
            "send(0, 1, -1, 0) = OUTSIDE", "send(0, 1, MIN, 0) = OUTSIDE", "send(0, 1, MAX, 0) = OUTSIDE",
            "send(0, 1, 1, -1) = OUTSIDE", "send(0, 1, 1, 99) = 6", "send(0, 1, 1, 100) = OUTSIDE",
            "send(0, 1, 1, MIN) = OUTSIDE", "send(0, 1, 1, MAX) = OUTSIDE");
        Sentences.promise(6, "FULL.");
        Run.of(FOUR).fill(23).due("send(0, 1, 9, 9) = 23", "send(0, 1, 9, 9) = FULL", "send(3, 2, 1, 0) = FULL",
            "burn(1) = 23", "send(3, 2, 1, 0) = 23", "send(3, 2, 1, 0) = FULL", "many(1) = 24");
    }

    private static void answer() {
        Sentences.promise(7, "An ANSWER: its number.");
        Run run = Run.of(FOUR).due("send(2, 3, 10, 7) = 0", "send(0, 1, 10, 0) = 1", "answer(0, 1, 7) = 2",
            "ofLetter(2, 5) = 0", "ofLetter(0, 4) = 2");
        Sentences.promise(7, "UNKNOWN: LETTER;");
        run.due("answer(-1, 1, 9) = UNKNOWN", "answer(3, 1, 9) = UNKNOWN", "answer(24, 1, 9) = UNKNOWN",
            "answer(MIN, 1, 9) = UNKNOWN", "answer(MAX, 1, 9) = UNKNOWN", "answer(2, 1, 9) = 3", "answer(3, 1, 9) = 4",
            "burn(2) = 3", "answer(3, 1, 9) = UNKNOWN");
        Sentences.promise(7, "OUTSIDE: weight, day (an earlier one: so, too);");
        run.due("answer(2, 0, 9) = OUTSIDE", "answer(2, 100, 9) = OUTSIDE", "answer(2, MIN, 9) = OUTSIDE",
            "answer(2, MAX, 9) = OUTSIDE", "answer(2, 1, 6) = OUTSIDE", "answer(2, 1, 0) = OUTSIDE",
            "answer(2, 1, -1) = OUTSIDE", "answer(2, 1, 100) = OUTSIDE", "answer(2, 1, MIN) = OUTSIDE",
            "answer(2, 1, MAX) = OUTSIDE", "answer(1, 1, -1) = OUTSIDE", "answer(2, 99, 7) = 3", "answer(3, 1, 99) = 4",
            "answer(1, 1, 0) = 5");
        Sentences.promise(7, "STATE: it is ANSWERED;");
        run.due("answer(0, 1, 7) = STATE", "answer(2, 1, 7) = STATE", "answer(1, 1, 0) = STATE", "answer(5, 1, 0) = 6",
            "answer(5, 1, 0) = STATE", "burn(1) = 6", "answer(5, 1, 0) = 6");
        Sentences.promise(7, "FULL.");
        Run.of(FOUR).fill(23).due("answer(22, 9, 9) = 23", "answer(23, 9, 9) = FULL", "answer(0, 1, 0) = FULL",
            "burn(1) = 23", "answer(0, 1, 0) = 23", "answer(1, 1, 0) = FULL", "ofLetter(1, 4) = NONE", "many(1) = 24");
    }

    private static void ofLetter() {
        Sentences.promise(8, "Of a LETTER: 0 from whom, 1 to whom, 2 how heavy it was written, 3 its DAY, 4 its ANSWER "
            + "(NONE), 5 the LETTER of which it is the ANSWER (NONE), 6 its SCALE.");
        Run run = Run.of(FOUR).due("send(3, 2, 99, 0) = 0", "send(1, 0, 98, 99) = 1", "answer(0, 97, 50) = 2",
            "answer(2, 1, 99) = 3", "ofLetter(0, 0) = 3", "ofLetter(0, 1) = 2", "ofLetter(0, 2) = 99", "ofLetter(0, 3) = 0",
            "ofLetter(0, 4) = 2", "ofLetter(0, 5) = NONE", "ofLetter(0, 6) = 99", "ofLetter(1, 0) = 1", "ofLetter(1, 1) = 0",
            "ofLetter(1, 2) = 98", "ofLetter(1, 3) = 99", "ofLetter(1, 4) = NONE", "ofLetter(1, 5) = NONE",
            "ofLetter(1, 6) = 101", "ofLetter(2, 0) = 2", "ofLetter(2, 1) = 3", "ofLetter(2, 2) = 97", "ofLetter(2, 3) = 50",
            "ofLetter(2, 4) = 3", "ofLetter(2, 5) = 0", "ofLetter(2, 6) = 148", "ofLetter(3, 4) = NONE", "ofLetter(3, 5) = 2");
        Sentences.promise(8, "UNKNOWN;");
        run.due("ofLetter(-1, 0) = UNKNOWN", "ofLetter(4, 0) = UNKNOWN", "ofLetter(23, 0) = UNKNOWN",
            "ofLetter(24, 0) = UNKNOWN", "ofLetter(MIN, 0) = UNKNOWN", "ofLetter(MAX, 0) = UNKNOWN", "burn(1) = 3",
            "ofLetter(3, 0) = UNKNOWN", "ofLetter(2, 4) = NONE");
        Sentences.promise(8, "OUTSIDE.");
        run.due("ofLetter(0, -1) = OUTSIDE", "ofLetter(0, 7) = OUTSIDE", "ofLetter(2, MIN) = OUTSIDE",
            "ofLetter(2, MAX) = OUTSIDE");
    }

    private static void burn() {
        Sentences.promise(9, "The last k LETTERS (0 .. as many as there are) are burnt (what they answered is not ANSWERED any "
            + "more): how many are left.");
        Run run = Run.of(FOUR).due("burn(0) = 0", "send(0, 1, 10, 5) = 0", "send(2, 3, 10, 5) = 1", "answer(0, 6, 9) = 2",
            "answer(1, 7, 9) = 3", "answer(2, 8, 9) = 4", "burn(0) = 5", "ofLetter(4, 5) = 2", "burn(1) = 4",
            "ofLetter(2, 4) = NONE", "ofLetter(0, 4) = 2", "ofLetter(1, 4) = 3", "burn(2) = 2", "ofLetter(0, 4) = NONE",
            "ofLetter(1, 4) = NONE", "ofLetter(2, 0) = UNKNOWN", "answer(1, 1, 5) = 2", "burn(3) = 0", "many(1) = 0",
            "burn(0) = 0", "send(2, 3, 1, 0) = 0", "ofLetter(0, 4) = NONE", "ofLetter(0, 5) = NONE");
        run.fill(24).due("burn(25) = OUTSIDE", "burn(24) = 0");
        Sentences.promise(9, "OUTSIDE.");
        run.due("burn(1) = OUTSIDE", "burn(-1) = OUTSIDE", "burn(MIN) = OUTSIDE", "burn(MAX) = OUTSIDE",
            "send(0, 1, 1, 0) = 0", "burn(2) = OUTSIDE", "burn(-1) = OUTSIDE", "burn(1) = 0");
        new Run().due("burn(1) = OUTSIDE", "burn(-1) = OUTSIDE", "burn(0) = 0");
    }

    private static void paid() {
        Sentences.promise(10, "PAID by a DAY.");
        Run run = Run.of(FOUR).due("send(0, 3, 9, 1) = 0", "answer(0, 8, 2) = 1", "paid(0, 2) = 0", "paid(3, 1) = 0",
            "paid(3, 2) = 17", "law(1) = 0", "paid(0, 2) = 17", "paid(3, 2) = 0");
        Sentences.promise(10, "UNKNOWN: PERSON;");
        run.due("paid(-1, 0) = UNKNOWN", "paid(4, 0) = UNKNOWN", "paid(MIN, 0) = UNKNOWN", "paid(MAX, 0) = UNKNOWN");
        Sentences.promise(10, "OUTSIDE: day.");
        run.due("paid(0, -1) = OUTSIDE", "paid(0, 0) = 0", "paid(0, 99) = 17", "paid(0, 100) = OUTSIDE",
            "paid(3, MIN) = OUTSIDE", "paid(3, MAX) = OUTSIDE");
    }

    private static void owes() {
        Sentences.promise(11, "OWES on a DAY.");
        Run run = Run.of(FOUR).due("send(0, 3, 9, 1) = 0", "owes(3, 0, 1) = 0", "owes(3, 0, 2) = 9", "owes(0, 3, 2) = 0");
        Sentences.promise(11, "UNKNOWN: PERSONS (they are one: 0);");
        run.due("owes(-1, 0, 2) = UNKNOWN", "owes(4, 0, 2) = UNKNOWN", "owes(3, -1, 2) = UNKNOWN", "owes(3, 4, 2) = UNKNOWN",
            "owes(4, 4, 2) = UNKNOWN", "owes(-1, -1, 2) = UNKNOWN", "owes(MIN, 0, 2) = UNKNOWN", "owes(3, MAX, 2) = UNKNOWN",
            "owes(0, 0, 2) = 0", "owes(3, 3, 2) = 0", "owes(3, 3, 99) = 0");
        Sentences.promise(11, "OUTSIDE: day.");
        run.due("owes(3, 0, -1) = OUTSIDE", "owes(3, 0, 0) = 0", "owes(3, 0, 99) = 882", "owes(3, 0, 100) = OUTSIDE",
            "owes(3, 0, MIN) = OUTSIDE", "owes(3, 0, MAX) = OUTSIDE", "owes(3, 3, 100) = OUTSIDE", "owes(0, 0, -1) = OUTSIDE");
    }

    private static void net() {
        Sentences.promise(12, "NET on a DAY, and 1000000.");
        Run run = Run.of(FOUR).due("net(0, 0) = 1000000", "send(0, 3, 1, 0) = 0", "net(0, 0) = 1000000",
            "net(0, 1) = 1000001", "net(3, 1) = 999999", "net(0, 99) = 1000099", "net(3, 99) = 999901",
            "net(1, 99) = 1000000");
        // As much as can be owed: 24 letters of a lawyer's 99 for 99 days.
        Run most = Run.of("pl40w01");
        for (int k = 0; k < 24; k++) {
            most.due("send(0, 1, 99, 0) = " + k);
        }
        most.due("owes(1, 0, 99) = 358776", "net(0, 99) = 1358776", "net(1, 99) = 641224", "settled(99) = 1");
        Sentences.promise(12, "UNKNOWN: PERSON;");
        run.due("net(-1, 0) = UNKNOWN", "net(4, 0) = UNKNOWN", "net(MIN, 0) = UNKNOWN", "net(MAX, 0) = UNKNOWN");
        Sentences.promise(12, "OUTSIDE: day.");
        run.due("net(0, -1) = OUTSIDE", "net(0, 100) = OUTSIDE", "net(3, MIN) = OUTSIDE", "net(3, MAX) = OUTSIDE");
    }

    private static void settled() {
        Sentences.promise(13, "SETTLED on a DAY: the fewest payments.");
        Run run = Run.of(FOUR).due("send(0, 1, 5, 10) = 0", "send(2, 3, 2, 11) = 1", "settled(10) = 0", "settled(11) = 1",
            "settled(12) = 2", "answer(1, 2, 20) = 2", "settled(19) = 2", "settled(20) = 1", "settled(21) = 2");
        Sentences.promise(13, "OUTSIDE: day;");
        run.due("settled(-1) = OUTSIDE", "settled(0) = 0", "settled(99) = 2", "settled(100) = OUTSIDE",
            "settled(MIN) = OUTSIDE", "settled(MAX) = OUTSIDE");
        Sentences.promise(13, "STATE: there is no POST.");
        new Run().due("settled(0) = STATE", "settled(99) = STATE").text("pw10", -104).due("settled(0) = STATE")
            .text("pw10w10", 2).due("settled(0) = 0");
    }
}
