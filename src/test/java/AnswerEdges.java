/** Promises 14 to 17 and part 3 of the terms, sentence by sentence, on both sides of their bounds. */
final class AnswerEdges {
    private AnswerEdges() {
    }

    static void hold() {
        bestTerms();
        howManyTurns();
        turns();
        fines();
        foresight();
        askedInTurn();
        splitTerms();
        best();
        course();
        cost();
        split();
        splitFaults();
        splitBounds();
    }

    private static Run best(Run run, int p, int scale, int weight, int pays) {
        return run.due("best(" + p + ", " + scale + ", 0) = " + weight, "best(" + p + ", " + scale + ", 1) = " + pays);
    }

    private static void bestTerms() {
        Sentences.terms("14", "BEST ANSWER of a PERSON to a SCALE: of what it can write (1 .. its LIFT) the least by which it pays "
            + "the least of that PAIR by the LAW, and what it pays.");
        Run run = Run.of("pw40w01m12l15w39");
        // By law 0 it needs one more than the scale; the scale itself is as much as it can lift, or more than that.
        best(run, 0, 38, 39, 0);
        best(run, 0, 39, 40, 0);
        best(run, 0, 40, 40, 40);
        best(run, 0, 41, 1, 42);
        best(run, 4, 38, 39, 0);
        best(run, 4, 39, 39, 39);
        best(run, 4, 40, 1, 41);
        best(run, 1, 1, 1, 1);
        best(run, 1, 2, 1, 3);
        best(run, 2, 14, 12, 0);
        best(run, 2, 15, 12, 15);
        best(run, 2, 16, 1, 20);
        best(run, 3, 24, 15, 0);
        best(run, 3, 25, 15, 25);
        best(run, 3, 26, 1, 30);
        // Of all that is heavier the least, and nothing lighter than 1.
        best(run, 3, 3, 1, 0);
        best(run, 3, 4, 2, 0);
        best(run, 3, 5, 2, 0);
        best(run, 3, 6, 3, 0);
        run.due("law(1) = 0");
        best(run, 0, 1, 1, 1);
        best(run, 0, 2, 1, 0);
        best(run, 2, 3, 1, 7);
        best(run, 2, 4, 1, 4);
        best(run, 2, 5, 1, 0);
        run.due("law(2) = 1");
        best(run, 0, 1, 1, 1);
        best(run, 0, 200, 1, 1);
        best(run, 3, 200, 1, 4);
    }

    /** Two who lift 1 each, each paying its own: each pair costs both 1. */
    private static void howManyTurns() {
        Sentences.terms("15, 16", "BACK AND FORTH: two PERSONS write in turn, the first one first, n LETTERS at most (1 .. 8),");
        Run run = Run.of("pw01w01").due("law(2) = 0", "course(0, 1, 0, 999, -1) = OUTSIDE", "cost(0, 1, 0, 999, 0) = OUTSIDE");
        for (int n = 1; n <= 8; n++) {
            String call = "(0, 1, " + n + ", 999, ";
            run.due("course" + call + "-1) = " + n, "course" + call + (n - 1) + ") = 1", "course" + call + n + ") = NONE",
                "cost" + call + "0) = " + (n - 1), "cost" + call + "1) = " + (n - 1));
        }
        run.due("course(0, 1, 9, 999, -1) = OUTSIDE", "cost(0, 1, 9, 999, 0) = OUTSIDE");
        Run.of("pw01l01").due("law(2) = 0", "cost(0, 1, 2, 999, 0) = 1", "cost(0, 1, 2, 999, 1) = 4",
            "cost(1, 0, 2, 999, 0) = 4", "cost(1, 0, 2, 999, 1) = 1");
        Sentences.terms("15, 16", "Each LETTER but the first makes a PAIR with the one ahead of it.");
        run.due("cost(0, 1, 1, 999, 0) = 0", "cost(0, 1, 1, 999, 1) = 0", "cost(0, 1, 2, 999, 0) = 1",
            "cost(0, 1, 2, 999, 1) = 1", "cost(0, 1, 3, 999, 0) = 2", "cost(0, 1, 8, 999, 1) = 7");
    }

    private static void turns() {
        Sentences.terms("15, 16", "each what it can lift,");
        // By law 0 who outweighs all that the other one can lift pays nothing: 40 against 39, but not against 40.
        Run run = Run.of("pw40w39w40w01w02");
        run.due("course(0, 1, 2, 999, -1) = 2", "course(0, 1, 2, 999, 0) = 40", "course(0, 1, 2, 999, 1) = 1",
            "cost(0, 1, 2, 999, 0) = 0", "cost(0, 1, 2, 999, 1) = 41");
        run.due("course(0, 2, 2, 999, 0) = 1", "course(0, 2, 2, 999, 1) = 2", "cost(0, 2, 2, 999, 0) = 3",
            "cost(0, 2, 2, 999, 1) = 0");
        run.due("course(3, 4, 2, 999, 1) = 2", "cost(3, 4, 2, 999, 1) = 0", "course(4, 3, 2, 999, 0) = 2",
            "course(4, 3, 2, 999, 1) = 1", "cost(4, 3, 2, 999, 0) = 0", "cost(4, 3, 2, 999, 1) = 3");
        // A miser's 38 shows 41, its 37 shows 40.
        Run.of("pw40m40m37").due("course(1, 0, 2, 999, 0) = 38", "course(1, 0, 2, 999, 1) = 1", "cost(1, 0, 2, 999, 0) = 0",
            "cost(1, 0, 2, 999, 1) = 42", "course(2, 0, 2, 999, 0) = 1", "course(2, 0, 2, 999, 1) = 5", "cost(2, 0, 2, 999, 0) = 9",
            "cost(2, 0, 2, 999, 1) = 0");
        Sentences.terms("15, 16", "or (but the first LETTER is written) nothing more (0): then it ends,");
        run.due("course(0, 1, 2, 0, -1) = 1", "course(0, 1, 2, 0, 0) = 1", "course(0, 1, 2, 0, 1) = NONE",
            "course(0, 1, 8, 0, -1) = 1", "course(0, 1, 1, 0, -1) = 1", "course(0, 1, 1, 0, 0) = 1");
    }

    private static void fines() {
        Sentences.terms("15, 16", "and who writes nothing pays FINE (0 .. 999; nobody does, when n LETTERS are written).");
        Run run = Run.of("pw01w01").due("law(2) = 0", "cost(0, 1, 1, 0, 0) = 0", "cost(0, 1, 1, 999, 0) = 0",
            "cost(0, 1, 1, 999, 1) = 0", "cost(0, 1, 2, -1, 0) = OUTSIDE", "cost(0, 1, 2, 1000, 0) = OUTSIDE",
            "course(0, 1, 2, 0, -1) = 1", "cost(0, 1, 2, 0, 0) = 0", "cost(0, 1, 2, 0, 1) = 0",
            "course(0, 1, 2, 1, -1) = 1", "cost(0, 1, 2, 1, 0) = 0", "cost(0, 1, 2, 1, 1) = 1",
            "course(0, 1, 2, 2, -1) = 2", "cost(0, 1, 2, 2, 0) = 1", "cost(0, 1, 2, 2, 1) = 1");
        // Eight letters would cost the second one 7: no less than a fine of 7, but less than one of 8.
        run.due("course(0, 1, 8, 7, -1) = 1", "course(0, 1, 8, 7, 1) = NONE", "cost(0, 1, 8, 7, 0) = 0",
            "cost(0, 1, 8, 7, 1) = 7", "course(0, 1, 8, 8, -1) = 8", "course(0, 1, 8, 8, 7) = 1",
            "course(0, 1, 8, 8, 8) = NONE", "cost(0, 1, 8, 8, 0) = 7", "cost(0, 1, 8, 8, 1) = 7");
        run.due("course(0, 1, 8, 999, -1) = 8", "course(1, 0, 8, 7, -1) = 1", "cost(1, 0, 8, 7, 1) = 7");
    }

    /**
     * A lifts 2, B 3, by law 0, three letters at most. Behind B's 1, 2 and 3 A's best costs it 0, 2 and 4 and B 3, 2 and
     * 0. So B is safe by 3, and by 2 as well where A, who has to pay 2 for going on, pays the fine instead.
     */
    private static void foresight() {
        Sentences.terms("15, 16", "Each who is in turn writes what makes it pay the least from then on, as all who follow do likewise;");
        Run run = Run.of("pw02w03");
        plays(run, 2, 999, new int[] {1, 2}, 3, 0);
        plays(run, 3, 999, new int[] {1, 3, 1}, 8, 0);
        plays(run, 3, 5, new int[] {1, 3, 1}, 8, 0);
        plays(run, 3, 3, new int[] {1, 3}, 7, 0);
        Sentences.terms("15, 16", "of several the least.");
        plays(run, 3, 4, new int[] {1, 3}, 8, 0);
        plays(run, 3, 2, new int[] {1, 2}, 5, 0);
        plays(run, 3, 1, new int[] {1, 2}, 4, 0);
        plays(run, 3, 0, new int[] {1}, 0, 0);
        Sentences.terms("15, 16", "COURSE: what is written so, as a row; COST of each of both.");
        plays(run, 3, 999, new int[] {1, 3, 1}, 8, 0);
        // The other way round B begins: 3 is more than A can lift, who pays 1 + 3 or the fine.
        run.text("pw03w02", 2);
        plays(run, 2, 4, new int[] {3}, 0, 4);
        plays(run, 2, 5, new int[] {3, 1}, 0, 4);
        plays(run, 2, 3, new int[] {3}, 0, 3);
        plays(run, 2, 2, new int[] {2}, 0, 2);
        plays(run, 2, 1, new int[] {2}, 0, 1);
    }

    /** What was asked before doesn't matter: one object is asked all, by one law after the other, and new ones once each. */
    private static void askedInTurn() {
        String text = "pm40w40l37w39";
        int[][] who = {{0, 1}, {1, 0}, {1, 3}, {2, 1}};
        int[] limits = {8, 3, 2, 1};
        Caller used = written(text);
        for (int law : new int[] {1, 2, 0}) {
            used.ask("law", law);
            for (int[] both : who) {
                for (int n : limits) {
                    for (int fine : new int[] {999, 41}) {
                        sameAsAnew(used, text, law, both[0], both[1], n, fine);
                    }
                }
            }
        }
    }

    private static void sameAsAnew(Caller used, String text, int law, int first, int other, int n, int fine) {
        Caller anew = written(text);
        anew.ask("law", law);
        String call = Sentences.now() + "by law " + law + " of " + first + ", " + other + ", " + n + ", " + fine;
        Check.due(call + ", cost", used.ask("cost", first, other, n, fine, 0), anew.ask("cost", first, other, n, fine, 0));
        anew = written(text);
        anew.ask("law", law);
        Check.due(call + ", the last", used.ask("course", first, other, n, fine, n - 1),
            anew.ask("course", first, other, n, fine, n - 1));
        anew = written(text);
        anew.ask("law", law);
        Check.due(call + ", the other's", used.ask("cost", first, other, n, fine, 1), anew.ask("cost", first, other, n, fine, 1));
    }

    private static Caller written(String text) {
        Caller x = new Caller();
        x.ask("sheet", 0, 0, text.length());
        for (int i = 0; i < text.length(); i++) {
            x.ask("put", 0, i, text.charAt(i));
        }
        x.ask("post", 0, 0, 0, text.length());
        return x;
    }

    private static void plays(Run run, int n, int fine, int[] row, int first, int other) {
        String call = "(0, 1, " + n + ", " + fine + ", ";
        run.due("course" + call + "-1) = " + row.length);
        for (int q = 0; q < row.length; q++) {
            run.due("course" + call + q + ") = " + row[q]);
        }
        run.due("course" + call + row.length + ") = NONE", "cost" + call + "0) = " + first, "cost" + call + "1) = " + other);
    }

    /** By the row of ints on sheet 1. */
    private static Run parted(Run run, int p, int weight, int pays, int... row) {
        String call = "split(" + p + ", " + weight + ", 1, 2, 0, " + row.length + ", ";
        run.due(call + "-1) = " + pays);
        for (int q = 0; q < row.length; q++) {
            run.due(call + q + ") = " + row[q]);
        }
        return run;
    }

    private static void splitTerms() {
        Sentences.terms("17", "SPLIT: what one PERSON has to write, so heavy in all, is written in as many parts as there are answers "
            + "(1 .. 6) expected,");
        Run run = Run.of("pw01m01l01").row(1, 200, 200, 200, 200, 200, 200, 200);
        parted(run, 0, 50, 250, 50);
        parted(run, 0, 50, 1250, 1, 1, 1, 1, 1, 45);
        parted(run, 0, 99, 1299, 1, 1, 1, 1, 1, 94);
        parted(run, 2, 99, 1364, 1, 1, 1, 1, 1, 94);
        run.due("split(0, 50, 1, 2, 0, 0, -1) = OUTSIDE", "split(0, 50, 1, 2, 0, 7, -1) = OUTSIDE");
        Sentences.terms("17", "each so heavy as the SCALE shows (told as a row; 1 .. 200),");
        run.row(1, 1, 200, 0, 201);
        parted(run, 0, 1, 1, 1);
        parted(run, 0, 2, 202, 1, 1);
        parted(run, 1, 2, 204, 1, 1);
        parted(run, 2, 3, 204, 2, 1);
        run.due("split(0, 9, 1, 2, 0, 3, -1) = OUTSIDE", "split(0, 9, 1, 2, 3, 1, -1) = OUTSIDE",
            "split(0, 9, 1, 2, 1, 2, -1) = OUTSIDE", "split(0, 9, 1, 2, 1, 1, -1) = 209");
        Sentences.terms("17", "each part 1 or more (LIFT does not matter):");
        run.row(1, 98, 1, 1, 1, 1, 1);
        parted(run, 0, 98, 98, 98);
        parted(run, 0, 99, 0, 99);
        parted(run, 0, 98, 99, 1, 97);
        parted(run, 0, 6, 104, 1, 1, 1, 1, 1, 1);
        run.row(1, 50, 1);
        parted(run, 0, 60, 0, 51, 9);
        run.row(1, 97, 1);
        parted(run, 0, 99, 1, 98, 1);
        run.row(1, 1, 1, 1, 1, 1, 1);
        parted(run, 0, 6, 6, 1, 1, 1, 1, 1, 1);
        run.due("split(0, 5, 1, 2, 0, 6, -1) = OUTSIDE");
        Sentences.terms("17", "so that it pays the least for all PAIRS by the LAW;");
        run.row(1, 5, 9);
        parted(run, 0, 10, 10, 9, 1);
        parted(run, 1, 10, 0, 3, 7);
        run.due("law(1) = 0");
        parted(run, 0, 12, 0, 4, 8);
        parted(run, 0, 13, 5, 5, 8);
        parted(run, 0, 14, 11, 6, 8);
        Sentences.terms("17", "of several the first as a row of parts.");
        parted(run, 0, 10, 0, 2, 8);
        parted(run, 0, 11, 0, 3, 8);
        parted(run, 0, 9, 0, 1, 8);
        parted(run, 0, 5, 0, 1, 4);
        run.due("law(2) = 1");
        parted(run, 0, 10, 10, 1, 9);
        parted(run, 2, 10, 20, 1, 9);
        parted(run, 2, 9, 19, 1, 8);
    }

    private static void best() {
        Sentences.promise(14, "BEST ANSWER to a SCALE (1 .. 200): how heavy (what 0), what it pays (1).");
        Run run = Run.of("pw20m12l15").due("best(0, 0, 0) = OUTSIDE", "best(0, 0, 1) = OUTSIDE");
        best(run, 0, 1, 2, 0);
        best(run, 0, 200, 1, 201);
        run.due("best(0, 201, 0) = OUTSIDE", "best(0, 201, 1) = OUTSIDE");
        Sentences.promise(14, "UNKNOWN;");
        run.due("best(-1, 1, 0) = UNKNOWN", "best(2, 1, 0) = 1", "best(3, 1, 0) = UNKNOWN", "best(MIN, 1, 0) = UNKNOWN",
            "best(MAX, 1, 0) = UNKNOWN");
        Sentences.promise(14, "OUTSIDE.");
        run.due("best(0, -1, 0) = OUTSIDE", "best(0, MIN, 0) = OUTSIDE", "best(0, MAX, 0) = OUTSIDE", "best(0, 1, -1) = OUTSIDE",
            "best(0, 1, 2) = OUTSIDE", "best(0, 1, MIN) = OUTSIDE", "best(0, 1, MAX) = OUTSIDE");
    }

    private static void course() {
        Sentences.promise(15, "BACK AND FORTH: how many LETTERS are written (q -1), how heavy the q-th one is (0 on); NONE: there "
            + "are fewer.");
        Run run = Run.of("pw02w03");
        run.due("course(0, 1, 3, 999, -1) = 3", "course(0, 1, 3, 999, 0) = 1", "course(0, 1, 3, 999, 1) = 3",
            "course(0, 1, 3, 999, 2) = 1", "course(0, 1, 3, 999, 3) = NONE", "course(0, 1, 3, 999, 8) = NONE",
            "course(0, 1, 3, 999, MAX) = NONE", "course(0, 1, 3, 3, -1) = 2", "course(0, 1, 3, 3, 1) = 3",
            "course(0, 1, 3, 3, 2) = NONE", "course(0, 1, 3, 0, 0) = 1", "course(0, 1, 3, 0, 1) = NONE");
        Sentences.promise(15, "UNKNOWN: PERSONS (one: so, too), q below -1;");
        run.due("course(-1, 1, 3, 9, 0) = UNKNOWN", "course(2, 1, 3, 9, 0) = UNKNOWN", "course(0, -1, 3, 9, 0) = UNKNOWN",
            "course(0, 2, 3, 9, 0) = UNKNOWN", "course(0, 0, 3, 9, 0) = UNKNOWN", "course(1, 1, 3, 9, 0) = UNKNOWN",
            "course(MIN, 1, 3, 9, 0) = UNKNOWN", "course(0, MAX, 3, 9, 0) = UNKNOWN", "course(1, 0, 1, 9, -1) = 1",
            "course(0, 1, 3, 9, -2) = UNKNOWN", "course(0, 1, 3, 9, MIN) = UNKNOWN");
        Sentences.promise(15, "OUTSIDE: n, fine.");
        run.due("course(0, 1, 0, 9, 0) = OUTSIDE", "course(0, 1, 1, 9, -1) = 1", "course(0, 1, 8, 0, -1) = 1",
            "course(0, 1, 9, 9, 0) = OUTSIDE", "course(0, 1, -1, 9, 0) = OUTSIDE", "course(0, 1, MIN, 9, 0) = OUTSIDE",
            "course(0, 1, MAX, 9, 0) = OUTSIDE", "course(0, 1, 3, -1, 0) = OUTSIDE", "course(0, 1, 3, 999, 0) = 1",
            "course(0, 1, 3, 1000, 0) = OUTSIDE", "course(0, 1, 3, MIN, 0) = OUTSIDE", "course(0, 1, 3, MAX, 0) = OUTSIDE");
    }

    private static void cost() {
        Sentences.promise(16, "COST of the first (what 0), of the other one (1).");
        Run run = Run.of("pw02w03").due("cost(0, 1, 3, 999, 0) = 8", "cost(0, 1, 3, 999, 1) = 0", "cost(1, 0, 2, 4, 0) = 0",
            "cost(1, 0, 2, 4, 1) = 4");
        Sentences.promise(16, "UNKNOWN: PERSONS (one: so, too);");
        run.due("cost(-1, 1, 3, 9, 0) = UNKNOWN", "cost(2, 1, 3, 9, 0) = UNKNOWN", "cost(0, -1, 3, 9, 0) = UNKNOWN",
            "cost(0, 2, 3, 9, 0) = UNKNOWN", "cost(0, 0, 3, 9, 0) = UNKNOWN", "cost(1, 1, 3, 9, 0) = UNKNOWN",
            "cost(MIN, 1, 3, 9, 0) = UNKNOWN", "cost(0, MAX, 3, 9, 0) = UNKNOWN");
        Sentences.promise(16, "OUTSIDE: n, fine, what.");
        run.due("cost(0, 1, 0, 9, 0) = OUTSIDE", "cost(0, 1, 1, 9, 0) = 0", "cost(0, 1, 8, 0, 0) = 0",
            "cost(0, 1, 9, 9, 0) = OUTSIDE", "cost(0, 1, MIN, 9, 0) = OUTSIDE", "cost(0, 1, MAX, 9, 0) = OUTSIDE",
            "cost(0, 1, 3, -1, 0) = OUTSIDE", "cost(0, 1, 3, 0, 0) = 0", "cost(0, 1, 3, 1000, 0) = OUTSIDE",
            "cost(0, 1, 3, MIN, 0) = OUTSIDE", "cost(0, 1, 3, MAX, 0) = OUTSIDE", "cost(0, 1, 3, 9, -1) = OUTSIDE",
            "cost(0, 1, 3, 9, 2) = OUTSIDE", "cost(0, 1, 3, 9, MIN) = OUTSIDE", "cost(0, 1, 3, 9, MAX) = OUTSIDE");
    }

    private static void split() {
        Sentences.promise(17, "SPLIT, by n such cells: what it pays (q -1), the q-th part (0 on).");
        Run run = Run.of("pw20m12l15").row(1, 0, 5, 9, 201);
        run.due("split(1, 10, 1, 2, 1, 2, -1) = 0", "split(1, 10, 1, 2, 1, 2, 0) = 3", "split(1, 10, 1, 2, 1, 2, 1) = 7",
            "split(1, 10, 1, 2, 2, 1, -1) = 0", "split(1, 10, 1, 2, 2, 1, 0) = 10");
        for (int lane = 0; lane < 3; lane++) {
            run.due("sheet(2, " + lane + ", 4) = 1", "put(2, 2, 5) = 1", "put(2, 3, 9) = 1");
            run.due("split(0, 10, 2, " + lane + ", 2, 2, 0) = 9", "split(0, 10, 2, " + lane + ", 2, 2, -1) = 10");
        }
        Sentences.promise(17, "UNKNOWN: PERSON, SHEET;");
        run.due("split(-1, 10, 1, 2, 1, 2, 0) = UNKNOWN", "split(3, 10, 1, 2, 1, 2, 0) = UNKNOWN",
            "split(MIN, 10, 1, 2, 1, 2, 0) = UNKNOWN", "split(MAX, 10, 1, 2, 1, 2, 0) = UNKNOWN",
            "split(0, 10, -1, 2, 1, 2, 0) = UNKNOWN", "split(0, 10, 4, 2, 1, 2, 0) = UNKNOWN",
            "split(0, 10, MIN, 2, 1, 2, 0) = UNKNOWN", "split(0, 10, MAX, 2, 1, 2, 0) = UNKNOWN");
        run.row(3, 5).due("split(2, 10, 3, 2, 0, 1, -1) = 0");
        Sentences.promise(17, "OUTSIDE: lane, weight (1 .. 99);");
        run.due("split(0, 10, 1, -1, 1, 2, 0) = OUTSIDE", "split(0, 10, 1, 3, 1, 2, 0) = OUTSIDE",
            "split(0, 10, 1, MIN, 1, 2, 0) = OUTSIDE", "split(0, 10, 1, MAX, 1, 2, 0) = OUTSIDE",
            "split(0, 0, 1, 2, 1, 1, 0) = OUTSIDE", "split(0, 1, 1, 2, 1, 1, 0) = 1", "split(0, 99, 1, 2, 1, 1, 0) = 99",
            "split(0, 100, 1, 2, 1, 1, 0) = OUTSIDE", "split(0, MIN, 1, 2, 1, 1, 0) = OUTSIDE",
            "split(0, MAX, 1, 2, 1, 1, 0) = OUTSIDE");
    }

    private static void splitFaults() {
        Sentences.promise(17, "FAULTS CAST, NULL, SIZE, INDEX;");
        Run run = Run.of("pw20m12l15").row(1, 5, 9, 5, 9, 5, 9, 5);
        run.due("split(0, 10, 1, 0, 0, 2, 0) = CAST", "split(0, 10, 1, 1, 0, 2, 0) = CAST", "split(0, 10, 0, 2, 0, 2, 0) = CAST",
            "split(0, 10, 2, 0, 0, 2, 0) = NULL", "split(0, 10, 2, 1, 0, 2, 0) = NULL", "split(0, 10, 3, 2, 0, 2, 0) = NULL",
            "split(0, 10, 1, 2, 0, -1, 0) = SIZE", "split(0, 10, 1, 2, 0, MIN, 0) = SIZE",
            "split(0, 10, 1, 2, -1, 2, 0) = INDEX", "split(0, 10, 1, 2, 5, 2, 0) = 1", "split(0, 10, 1, 2, 6, 2, 0) = INDEX",
            "split(0, 10, 1, 2, 6, 1, 0) = 10", "split(0, 10, 1, 2, 7, 1, 0) = INDEX", "split(0, 10, 1, 2, 7, 0, 0) = OUTSIDE",
            "split(0, 10, 1, 2, 8, 0, 0) = INDEX", "split(0, 10, 1, 2, -1, 0, 0) = INDEX", "split(0, 10, 1, 2, 0, 7, 0) = OUTSIDE",
            "split(0, 10, 1, 2, 0, 8, 0) = INDEX",
            "split(0, 10, 1, 2, 0, MAX, 0) = INDEX", "split(0, 10, 1, 2, MAX, MAX, 0) = INDEX",
            "split(0, 10, 1, 2, MAX, 1, 0) = INDEX", "split(0, 10, 1, 2, MIN, 1, 0) = INDEX");
    }

    private static void splitBounds() {
        Sentences.promise(17, "OUTSIDE: n is not 1 .. 6, above weight, a cell;");
        Run run = Run.of("pw20m12l15").row(1, 1, 200, 0, 1, 1, 1, 1, 1, 1, 1, 201, -1);
        run.due("split(0, 10, 1, 2, 3, 0, -1) = OUTSIDE", "split(0, 10, 1, 2, 3, 1, -1) = 0", "split(0, 10, 1, 2, 3, 6, -1) = 2",
            "split(0, 10, 1, 2, 3, 7, -1) = OUTSIDE", "split(0, 6, 1, 2, 3, 6, -1) = 6", "split(0, 5, 1, 2, 3, 6, -1) = OUTSIDE",
            "split(0, 2, 1, 2, 3, 2, -1) = 2", "split(0, 1, 1, 2, 3, 2, -1) = OUTSIDE", "split(0, 1, 1, 2, 3, 1, -1) = 1");
        run.due("split(0, 10, 1, 2, 0, 1, -1) = 0", "split(0, 10, 1, 2, 1, 1, -1) = 210", "split(0, 10, 1, 2, 2, 1, -1) = OUTSIDE",
            "split(0, 10, 1, 2, 10, 1, -1) = OUTSIDE", "split(0, 10, 1, 2, 11, 1, -1) = OUTSIDE",
            "split(0, 10, 1, 2, 1, 2, -1) = OUTSIDE", "split(0, 10, 1, 2, 2, 2, -1) = OUTSIDE",
            "split(0, 10, 1, 2, 9, 2, -1) = OUTSIDE");
        // A byte doesn't hold 200, a short does.
        run.due("sheet(2, 0, 1) = 1", "put(2, 0, 200) = 1", "split(0, 10, 2, 0, 0, 1, -1) = OUTSIDE", "put(2, 0, 127) = 1",
            "split(0, 10, 2, 0, 0, 1, -1) = 137", "sheet(2, 1, 1) = 1", "put(2, 0, 200) = 1", "split(0, 10, 2, 1, 0, 1, -1) = 210");
        Sentences.promise(17, "UNKNOWN: q is not -1 .. n - 1.");
        run.due("split(0, 10, 1, 2, 3, 2, -2) = UNKNOWN", "split(0, 10, 1, 2, 3, 2, -1) = 0", "split(0, 10, 1, 2, 3, 2, 0) = 2",
            "split(0, 10, 1, 2, 3, 2, 1) = 8", "split(0, 10, 1, 2, 3, 2, 2) = UNKNOWN", "split(0, 10, 1, 2, 3, 6, 5) = 2",
            "split(0, 10, 1, 2, 3, 6, 6) = UNKNOWN", "split(0, 10, 1, 2, 3, 1, 0) = 10", "split(0, 10, 1, 2, 3, 1, 1) = UNKNOWN",
            "split(0, 10, 1, 2, 3, 1, MIN) = UNKNOWN", "split(0, 10, 1, 2, 3, 1, MAX) = UNKNOWN");
    }
}
