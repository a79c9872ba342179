/** Promises 20 to 29 and part 5 of the terms, sentence by sentence, on both sides of their bounds. */
final class SheetEdges {
    private SheetEdges() {
    }

    static void hold() {
        sheetsTerms();
        lanes();
        tellingTerms();
        sheet();
        lose();
        put();
        cell();
        copy();
        copyIndex();
        tellAndGreet();
        as();
        trace();
        fault();
    }

    private static void sheetsTerms() {
        Sentences.terms("20 to 24", "SHEETS 0 .. 3 have nothing (at first), or a row of 0 .. 40 numbers (0 at first) of a LANE: 0 bytes, "
            + "1 shorts, 2 ints;");
        new Run().due("lose(0) = 0", "lose(3) = 0", "lose(-1) = UNKNOWN", "lose(4) = UNKNOWN", "sheet(0, 0, -1) = SIZE",
            "lose(0) = 0", "sheet(0, 0, 0) = 1", "cell(0, 0, 0) = INDEX", "put(0, 0, 1) = INDEX", "lose(0) = 1",
            "sheet(3, 2, 40) = 1", "cell(3, 0, 2) = 0", "cell(3, 39, 2) = 0", "put(3, 39, 5) = 1", "cell(3, 39, 2) = 5",
            "cell(3, 40, 2) = INDEX", "put(3, 40, 1) = INDEX", "sheet(3, 2, 41) = OUTSIDE", "cell(3, 39, 2) = 5",
            "sheet(3, 2, 40) = 1", "cell(3, 39, 2) = 0", "sheet(3, -1, 1) = OUTSIDE", "sheet(3, 3, 1) = OUTSIDE");
        AnswerPost x = new AnswerPost();
        x.sheet(2, 1, 40);
        for (int i = 0; i < 40; i++) {
            Check.due(Sentences.now() + i, x.cell(2, i, 1), 0);
            x.put(2, i, i + 1);
        }
        x.sheet(2, 1, 40);
        for (int i = 0; i < 40; i++) {
            Check.due(Sentences.now() + i, x.cell(2, i, 1), 0);
        }
    }

    private static void lanes() {
        Sentences.terms("22, 23", "what comes to a cell of it is cut to its LANE (with its sign).");
        Run run = new Run().due("sheet(0, 0, 1) = 1", "sheet(1, 1, 1) = 1", "sheet(2, 2, 1) = 1");
        cut(run, 0, "127", "127");
        cut(run, 0, "128", "-128");
        cut(run, 0, "-128", "-128");
        cut(run, 0, "-129", "127");
        cut(run, 0, "255", "-1");
        cut(run, 0, "256", "0");
        cut(run, 0, "MAX", "-1");
        cut(run, 0, "MIN", "0");
        cut(run, 1, "128", "128");
        cut(run, 1, "32767", "32767");
        cut(run, 1, "32768", "-32768");
        cut(run, 1, "-32768", "-32768");
        cut(run, 1, "-32769", "32767");
        cut(run, 1, "65535", "-1");
        cut(run, 1, "65536", "0");
        cut(run, 1, "MAX", "-1");
        cut(run, 1, "MIN", "0");
        cut(run, 2, "32768", "32768");
        cut(run, 2, "65536", "65536");
        cut(run, 2, "MAX", "2147483647");
        cut(run, 2, "MIN", "-2147483648");
    }

    /** Sheet 0 has bytes, 1 shorts, 2 ints. */
    private static void cut(Run run, int lane, String v, String due) {
        run.due("put(" + lane + ", 0, " + v + ") = 1", "cell(" + lane + ", 0, " + lane + ") = " + due);
    }

    private static void tellingTerms() {
        Sentences.terms("25, 28", "TELLING of PERSONS by bodies that leave their number in TRACE (an int that wraps, 0 at first, becomes "
            + "31 times it and the number) as they begin:");
        Run.of("pw01l40").due("trace() = 0", "tell(0) = 1", "trace() = 1", "tell(0) = 1", "trace() = 32", "tell(0) = 1",
            "trace() = 993", "tell(0) = 1", "trace() = 30784", "tell(0) = 1", "trace() = 954305", "tell(0) = 1",
            "trace() = 29583456", "tell(0) = 1", "trace() = 917087137", "tell(0) = 1", "trace() = -1635069824",
            "tell(0) = 1", "trace() = 852443009");
        Sentences.terms("25, 28", "WRITER (1): LIFT.");
        Run.of("pw01w40").due("tell(0) = 1", "trace() = 1").text("pw40w01", 2).due("tell(0) = 40", "trace() = 32");
        Sentences.terms("25, 28", "MISER (2): what WRITER's gives, and 100.");
        Run.of("pm01m40").due("tell(0) = 101", "trace() = 63", "tell(1) = 140", "trace() = 60606");
        Sentences.terms("25, 28", "LAWYER (3): what MISER's gives, and then once more what WRITER's gives (by that body alone).");
        Run.of("pl01l40").due("tell(0) = 102", "trace() = 91327");
        Run.of("pl01l40").due("tell(1) = 180", "trace() = 91327");
        Sentences.terms("26, 28", "GREETED by a lent body (4): the PERSON's number;");
        Run.of("pw20m20w20m20w20m20").due("greet(0) = 0", "trace() = 4", "greet(1) = 1", "trace() = 128", "greet(5) = 5",
            "trace() = 3972");
        Sentences.terms("26, 28", "LAWYERS have their own (5): 90.");
        Run.of("pl20m20l20").due("greet(0) = 90", "trace() = 5", "greet(2) = 90", "trace() = 160", "greet(1) = 1",
            "trace() = 4964");
    }

    private static void sheet() {
        Sentences.promise(20, "A SHEET gets a new row: 1.");
        Run run = new Run().due("sheet(0, 0, 2) = 1", "put(0, 1, 9) = 1", "sheet(0, 0, 2) = 1", "cell(0, 1, 0) = 0",
            "sheet(0, 1, 3) = 1", "cell(0, 2, 1) = 0", "cell(0, 0, 0) = CAST", "sheet(0, 2, 1) = 1", "cell(0, 1, 2) = INDEX");
        Sentences.promise(20, "UNKNOWN;");
        run.due("sheet(-1, 0, 1) = UNKNOWN", "sheet(3, 0, 1) = 1", "sheet(4, 0, 1) = UNKNOWN", "sheet(MIN, 0, 1) = UNKNOWN",
            "sheet(MAX, 0, 1) = UNKNOWN");
        Sentences.promise(20, "OUTSIDE: lane, n above 40;");
        run.due("put(0, 0, 7) = 1", "sheet(0, -1, 1) = OUTSIDE", "sheet(0, 3, 1) = OUTSIDE", "sheet(0, MIN, 1) = OUTSIDE",
            "sheet(0, MAX, 1) = OUTSIDE", "sheet(0, 2, 41) = OUTSIDE", "sheet(0, 2, MAX) = OUTSIDE", "cell(0, 0, 2) = 7",
            "sheet(1, 0, 40) = 1", "sheet(1, 2, 40) = 1");
        Sentences.promise(20, "SIZE.");
        run.due("sheet(0, 2, -1) = SIZE", "sheet(0, 0, MIN) = SIZE", "sheet(2, 0, -1) = SIZE", "cell(0, 0, 2) = 7",
            "put(2, 0, 0) = NULL", "sheet(2, 0, 0) = 1", "put(2, 0, 0) = INDEX");
    }

    private static void lose() {
        Sentences.promise(21, "A SHEET has nothing: 1; 0: it had nothing.");
        Run run = new Run().due("lose(0) = 0", "sheet(0, 0, 0) = 1", "lose(0) = 1", "lose(0) = 0", "sheet(3, 2, 40) = 1",
            "put(3, 0, 5) = 1", "lose(3) = 1", "cell(3, 0, 2) = NULL", "lose(3) = 0", "sheet(3, 2, 40) = 1",
            "cell(3, 0, 2) = 0", "lose(2) = 0");
        Sentences.promise(21, "UNKNOWN.");
        run.due("lose(-1) = UNKNOWN", "lose(4) = UNKNOWN", "lose(MIN) = UNKNOWN", "lose(MAX) = UNKNOWN", "lose(3) = 1");
    }

    private static void put() {
        Sentences.promise(22, "Cell i of a SHEET becomes v: 1.");
        Run run = new Run().due("sheet(0, 2, 3) = 1", "put(0, 0, 5) = 1", "put(0, 2, -6) = 1").rowIs(0, 2, 5, 0, -6);
        run.due("put(0, 0, 0) = 1").rowIs(0, 2, 0, 0, -6);
        Sentences.promise(22, "UNKNOWN;");
        run.due("put(-1, 0, 1) = UNKNOWN", "put(4, 0, 1) = UNKNOWN", "put(MIN, 0, 1) = UNKNOWN", "put(MAX, 0, 1) = UNKNOWN",
            "sheet(3, 0, 1) = 1", "put(3, 0, 1) = 1");
        Sentences.promise(22, "NULL;");
        run.due("put(1, 0, 1) = NULL", "sheet(1, 0, 1) = 1", "put(1, 0, 1) = 1", "lose(1) = 1", "put(1, 0, 1) = NULL");
        Sentences.promise(22, "INDEX.");
        run.due("put(0, -1, 1) = INDEX", "put(0, 3, 1) = INDEX", "put(0, MIN, 1) = INDEX", "put(0, MAX, 1) = INDEX",
            "put(0, 40, 1) = INDEX", "sheet(1, 0, 0) = 1", "put(1, 0, 1) = INDEX", "sheet(1, 0, 40) = 1", "put(1, 39, 1) = 1",
            "put(1, 40, 1) = INDEX", "sheet(1, 0, 2) = 1", "put(1, 2, 1) = INDEX", "put(1, 1, 1) = 1");
    }

    private static void cell() {
        Sentences.promise(23, "Cell i of what a SHEET has, taken as a row of a LANE.");
        Run run = new Run().due("sheet(0, 0, 2) = 1", "put(0, 1, -7) = 1", "cell(0, 1, 0) = -7", "cell(0, 0, 0) = 0",
            "sheet(1, 1, 1) = 1", "put(1, 0, -30000) = 1", "cell(1, 0, 1) = -30000", "sheet(3, 2, 40) = 1",
            "put(3, 39, MIN) = 1", "cell(3, 39, 2) = -2147483648");
        Sentences.promise(23, "LOST: UNKNOWN, OUTSIDE: lane;");
        run.due("cell(-1, 0, 0) = UNKNOWN", "cell(4, 0, 0) = UNKNOWN", "cell(MIN, 0, 0) = UNKNOWN", "cell(MAX, 0, 0) = UNKNOWN",
            "cell(0, 0, -1) = OUTSIDE", "cell(0, 0, 3) = OUTSIDE", "cell(0, 0, MIN) = OUTSIDE", "cell(0, 0, MAX) = OUTSIDE");
        Check.due("LOST", AnswerPost.LOST, -9223372036854775808L);
        Sentences.promise(23, "FAULTS CAST (nothing is no CAST), NULL, INDEX.");
        run.due("cell(0, 0, 1) = CAST", "cell(0, 0, 2) = CAST", "cell(1, 0, 0) = CAST", "cell(1, 0, 2) = CAST",
            "cell(3, 0, 0) = CAST", "cell(3, 0, 1) = CAST", "cell(2, 0, 0) = NULL", "cell(2, 0, 1) = NULL",
            "cell(2, 0, 2) = NULL", "cell(0, -1, 0) = INDEX", "cell(0, 2, 0) = INDEX", "cell(1, 1, 1) = INDEX",
            "cell(3, 40, 2) = INDEX", "cell(0, MIN, 0) = INDEX", "cell(0, MAX, 0) = INDEX", "sheet(2, 0, 0) = 1",
            "cell(2, 0, 0) = INDEX", "cell(2, 0, 1) = CAST");
    }

    private static void copy() {
        Sentences.promise(24, "n cells of a SHEET from i on go to another one (perhaps the same) from j on, as they were: n.");
        Run run = new Run().row(0, 1, 2, 3, 4, 5).row(1, 10, 20, 30);
        run.due("copy(0, 1, 1, 0, 2) = 2").rowIs(1, 2, 2, 3, 30).rowIs(0, 2, 1, 2, 3, 4, 5);
        run.due("copy(1, 0, 0, 2, 3) = 3").rowIs(0, 2, 1, 2, 2, 3, 30);
        run.row(0, 1, 2, 3, 4, 5).due("copy(0, 0, 0, 1, 4) = 4").rowIs(0, 2, 1, 1, 2, 3, 4);
        run.row(0, 1, 2, 3, 4, 5).due("copy(0, 1, 0, 0, 4) = 4").rowIs(0, 2, 2, 3, 4, 5, 5);
        run.row(0, 1, 2, 3, 4, 5).due("copy(0, 0, 0, 0, 5) = 5").rowIs(0, 2, 1, 2, 3, 4, 5);
        run.due("copy(0, 0, 1, 0, 0) = 0").rowIs(1, 2, 2, 3, 30);
        for (int lane = 0; lane < 2; lane++) {
            run.due("sheet(2, " + lane + ", 2) = 1", "sheet(3, " + lane + ", 2) = 1", "put(2, 0, -3) = 1", "copy(2, 0, 3, 1, 1) = 1")
                .rowIs(3, lane, 0, -3);
        }
        Sentences.promise(24, "UNKNOWN;");
        run.due("copy(-1, 0, 1, 0, 1) = UNKNOWN", "copy(4, 0, 1, 0, 1) = UNKNOWN", "copy(0, 0, -1, 0, 1) = UNKNOWN",
            "copy(0, 0, 4, 0, 1) = UNKNOWN", "copy(MIN, 0, 1, 0, 1) = UNKNOWN", "copy(0, 0, MAX, 0, 1) = UNKNOWN",
            "copy(3, 0, 3, 0, 1) = 1");
        Sentences.promise(24, "FAULTS NULL (the first, the other),");
        run.due("lose(3) = 1", "copy(3, 0, 0, 0, 1) = NULL", "copy(0, 0, 3, 0, 1) = NULL", "copy(3, 0, 3, 0, 0) = NULL",
            "copy(3, 0, 2, 0, 1) = NULL", "copy(2, 0, 3, 0, 1) = NULL");
        Sentences.promise(24, "CAST (unlike LANES),");
        run.due("sheet(3, 0, 2) = 1", "copy(0, 0, 2, 0, 1) = CAST", "copy(2, 0, 0, 0, 1) = CAST", "copy(0, 0, 3, 0, 0) = CAST",
            "copy(3, 0, 0, 0, 1) = CAST", "copy(2, 0, 3, 0, 1) = CAST", "copy(3, 0, 2, 0, 1) = CAST", "copy(0, 0, 1, 0, 1) = 1");
    }

    private static void copyIndex() {
        Sentences.promise(24, "INDEX: i, j, n below 0 or beyond.");
        Run run = new Run().row(0, 1, 2, 3, 4, 5).row(1, 10, 20, 30);
        run.due("copy(0, -1, 1, 0, 1) = INDEX", "copy(0, 0, 1, 0, 1) = 1", "copy(0, 4, 1, 0, 1) = 1", "copy(0, 5, 1, 0, 1) = INDEX",
            "copy(0, 0, 1, -1, 1) = INDEX", "copy(0, 0, 1, 2, 1) = 1", "copy(0, 0, 1, 3, 1) = INDEX", "copy(0, 0, 1, 0, -1) = INDEX",
            "copy(0, 0, 1, 0, 3) = 3", "copy(0, 0, 1, 0, 4) = INDEX", "copy(1, 0, 0, 0, 3) = 3", "copy(1, 0, 0, 0, 4) = INDEX",
            "copy(1, 0, 0, 2, 3) = 3", "copy(1, 0, 0, 3, 3) = INDEX", "copy(0, 2, 1, 0, 3) = 3", "copy(0, 3, 1, 0, 3) = INDEX",
            "copy(0, -1, 1, 0, 0) = INDEX", "copy(0, 5, 1, 3, 0) = 0", "copy(0, 6, 1, 0, 0) = INDEX", "copy(0, 0, 1, -1, 0) = INDEX",
            "copy(0, 0, 1, 4, 0) = INDEX", "copy(0, 5, 1, 3, -1) = INDEX", "copy(0, 1, 1, 0, MAX) = INDEX",
            "copy(0, 0, 1, 1, MAX) = INDEX", "copy(0, MAX, 1, 0, MAX) = INDEX", "copy(0, MAX, 1, 0, 1) = INDEX",
            "copy(0, 0, 1, MAX, 1) = INDEX", "copy(0, MIN, 1, 0, 1) = INDEX", "copy(0, 0, 1, MIN, 1) = INDEX",
            "copy(0, 0, 1, 0, MIN) = INDEX", "copy(0, MIN, 1, MIN, MIN) = INDEX", "copy(0, MIN, 1, 0, MIN) = INDEX");
        run.due("sheet(2, 2, 0) = 1", "copy(2, 0, 2, 0, 0) = 0", "copy(2, 0, 2, 0, 1) = INDEX", "copy(2, 1, 2, 0, 0) = INDEX",
            "copy(2, 0, 2, 1, 0) = INDEX", "copy(0, 5, 2, 0, 0) = 0", "copy(2, 0, 0, 5, 0) = 0");
    }

    private static void tellAndGreet() {
        Sentences.promise(25, "TELLING of a PERSON.");
        Run run = Run.of("pw20m12l15").due("tell(0) = 20", "tell(1) = 112", "tell(2) = 130");
        Sentences.promise(25, "UNKNOWN.");
        run.due("tell(-1) = UNKNOWN", "tell(3) = UNKNOWN", "tell(MIN) = UNKNOWN", "tell(MAX) = UNKNOWN");
        Sentences.promise(26, "How it is GREETED.");
        run.due("greet(0) = 0", "greet(1) = 1", "greet(2) = 90");
        Sentences.promise(26, "UNKNOWN.");
        run.due("greet(-1) = UNKNOWN", "greet(3) = UNKNOWN", "greet(MIN) = UNKNOWN", "greet(MAX) = UNKNOWN");
    }

    private static void as() {
        Sentences.promise(27, "A PERSON, taken as one of a kind: 1.");
        Run run = Run.of("pw20m12l15").due("as(0, 0) = 1", "as(1, 1) = 1", "as(2, 2) = 1");
        Sentences.promise(27, "UNKNOWN;");
        run.due("as(-1, 0) = UNKNOWN", "as(3, 0) = UNKNOWN", "as(MIN, 0) = UNKNOWN", "as(MAX, 0) = UNKNOWN");
        Sentences.promise(27, "OUTSIDE;");
        run.due("as(2, -1) = OUTSIDE", "as(2, 3) = OUTSIDE", "as(0, 3) = OUTSIDE", "as(0, -1) = OUTSIDE", "as(2, MIN) = OUTSIDE",
            "as(2, MAX) = OUTSIDE");
        Sentences.promise(27, "CAST: it is none (each is a WRITER, too; a LAWYER is a MISER).");
        run.due("as(0, 1) = CAST", "as(0, 2) = CAST", "as(1, 2) = CAST", "as(1, 0) = 1", "as(2, 0) = 1", "as(2, 1) = 1");
    }

    private static void trace() {
        Sentences.promise(28, "TRACE.");
        new Run().due("trace() = 0");
        Run.of("pw20m12l15").due("trace() = 0", "tell(1) = 112", "trace() = 63", "greet(0) = 0", "trace() = 1957", "greet(2) = 90",
            "trace() = 60672", "tell(7) = UNKNOWN", "greet(-1) = UNKNOWN", "trace() = 60672", "ofPerson(1, 0) = 1",
            "as(1, 1) = 1", "scale(1, 5) = 8", "trace() = 60672");
    }

    private static void fault() {
        Sentences.promise(29, "The FAULT of the latest call that names one: 0: it came to none, or was refused (0 ahead of any).");
        new Run().due("fault() = 0", "many(3) = OUTSIDE", "fault() = 0");
        Run run = Run.of("pw20m12").due("fault() = 0", "as(0, 1) = CAST", "fault() = 2", "fault() = 2", "as(0, 0) = 1",
            "fault() = 0", "put(3, 0, 0) = NULL", "fault() = 1", "put(4, 0, 0) = UNKNOWN", "fault() = 0");
        String[] comeToNone = {"post(0, 0, 0, 7) = 2", "post(0, 0, 0, 0) = -100", "post(0, 3, 0, 7) = OUTSIDE",
            "split(0, 1, 1, 2, 0, 1, -1) = 6", "split(0, 0, 1, 2, 0, 1, -1) = OUTSIDE", "split(0, 1, 1, 2, 0, 1, 1) = UNKNOWN",
            "split(0, 1, 1, 2, 0, 0, 0) = OUTSIDE", "sheet(2, 0, 1) = 1", "sheet(2, 0, 41) = OUTSIDE", "put(1, 0, 5) = 1",
            "put(-1, 0, 5) = UNKNOWN", "cell(1, 0, 2) = 5", "cell(1, 0, 3) = OUTSIDE", "cell(4, 0, 2) = UNKNOWN",
            "copy(1, 0, 1, 0, 1) = 1", "copy(1, 0, 4, 0, 1) = UNKNOWN", "as(1, 1) = 1", "as(1, 3) = OUTSIDE", "as(2, 1) = UNKNOWN"};
        run.row(1, 5);
        for (String line : comeToNone) {
            run.due("sheet(0, 0, -1) = SIZE", "fault() = 4", line, "fault() = 0");
        }
        String[] nameNone = {"ofPerson(9, 0) = UNKNOWN", "scale(0, 0) = OUTSIDE", "law(3) = OUTSIDE", "law(0) = 0",
            "send(0, 0, 1, 1) = UNKNOWN", "send(0, 1, 1, 1) = 0", "answer(0, 1, 0) = OUTSIDE", "answer(0, 1, 1) = 1",
            "ofLetter(0, 7) = OUTSIDE", "burn(3) = OUTSIDE", "burn(1) = 1", "paid(0, 100) = OUTSIDE", "owes(0, 1, 100) = OUTSIDE",
            "net(0, 100) = OUTSIDE", "settled(100) = OUTSIDE", "best(0, 0, 0) = OUTSIDE", "course(0, 1, 0, 0, 0) = OUTSIDE",
            "cost(0, 1, 0, 0, 0) = OUTSIDE", "least(0, 0, 2) = OUTSIDE", "weights(0, 0, 0, 0, 0) = STATE", "lose(4) = UNKNOWN",
            "lose(3) = 0", "tell(9) = UNKNOWN", "tell(0) = 20", "greet(9) = UNKNOWN", "greet(0) = 0", "trace() = 35",
            "many(3) = OUTSIDE", "many(0) = 2"};
        run.due("cell(1, 1, 2) = INDEX");
        for (String line : nameNone) {
            run.due(line, "fault() = 3");
        }
    }
}
