/** REFUSALS and FAULTS of the terms: what they are, and which of two comes first. */
final class OrderEdges {
    private OrderEdges() {
    }

    static void hold() {
        refusals();
        faults();
        ofThePost();
        ofLetters();
        ofSums();
        ofAnswers();
        ofSplit();
        ofLaws();
        ofSheets();
        ofCopy();
    }

    private static void refusals() {
        Sentences.terms("1 to 30", "REFUSALS, in the order in which a call's line tells them: "
            + "UNKNOWN (there is no such PERSON, LETTER, SHEET, place), OUTSIDE (another number is not as told), STATE (as told), FULL;");
        Check.due("UNKNOWN", AnswerPost.UNKNOWN, -1);
        Check.due("OUTSIDE", AnswerPost.OUTSIDE, -2);
        Check.due("STATE", AnswerPost.STATE, -3);
        Check.due("FULL", AnswerPost.FULL, -4);
        Run run = Run.of("pw10m05").fill(23).due("answer(0, 1, 0) = 23", "ofPerson(2, 0) = UNKNOWN", "ofLetter(24, 0) = UNKNOWN",
            "lose(4) = UNKNOWN", "course(0, 1, 1, 0, -2) = UNKNOWN", "burn(25) = OUTSIDE", "answer(0, 1, 0) = STATE",
            "answer(1, 1, 0) = FULL");
        Sentences.terms("1 to 30", "they change nothing (but fault(), of a call that names FAULTS).");
        run.due("as(0, 1) = CAST", "fault() = 2", "answer(1, 1, 0) = FULL", "fault() = 2", "law(3) = OUTSIDE", "fault() = 2",
            "as(0, 3) = OUTSIDE", "fault() = 0", "many(1) = 24", "many(2) = 0");
        Sentences.terms("8, 15, 19", "NONE is -9.");
        Check.due("NONE", AnswerPost.NONE, -9);
        run.due("ofLetter(1, 4) = NONE", "ofLetter(0, 5) = NONE");
        // No call of the face tells or takes a set.
        Sentences.terms("none", "Sets are told as bits (bit k for number k).");
    }

    private static void faults() {
        Sentences.terms("2, 17, 20, 22, 23, 24, 27, 29", "FAULTS are the machine's: 1 NULL (there is nothing), 2 CAST (it is "
            + "of another lane, kind), 3 INDEX (of cells from i on also where i is not 0 .. how many there are, if none of them "
            + "is taken, too), 4 SIZE (a length below 0).");
        Run run = Run.of("pw10m05").due("put(1, 0, 0) = NULL", "fault() = 1", "post(0, 1, 0, 7) = CAST", "fault() = 2",
            "as(0, 2) = CAST", "fault() = 2", "put(0, 7, 0) = INDEX", "fault() = 3", "post(0, 0, 0, -1) = SIZE", "fault() = 4",
            "post(0, 0, 7, 0) = -100", "post(0, 0, 8, 0) = INDEX", "post(0, 0, -1, 0) = INDEX", "copy(0, 7, 0, 0, 0) = 0",
            "copy(0, 8, 0, 0, 0) = INDEX", "copy(0, 0, 0, -1, 0) = INDEX", "split(0, 5, 0, 0, 7, 0, 0) = OUTSIDE",
            "split(0, 5, 0, 0, 8, 0, 0) = INDEX", "split(0, 5, 0, 0, -1, 0, 0) = INDEX", "sheet(1, 0, -1) = SIZE",
            "sheet(1, 0, 0) = 1");
        Sentences.terms("2, 17, 20, 22, 23, 24, 27, 29", "it answers -10 less it (LOST, where a long is "
            + "answered, as for refusals) and changes nothing; fault() tells it.");
        AnswerPost x = Posts.of("pw10m05");
        Check.due("NULL", x.put(3, 0, 0), -11);
        Check.due("CAST", x.as(0, 1), -12);
        Check.due("INDEX", x.put(0, 7, 0), -13);
        Check.due("SIZE", x.sheet(0, 0, -1), -14);
        Check.due("LOST", x.cell(0, 7, 0), Long.MIN_VALUE);
        Check.due("its fault", x.fault(), 3);
        Check.due("LOST of a refusal", x.cell(9, 7, 0), Long.MIN_VALUE);
        Check.due("its fault", x.fault(), 0);
        run.due("cell(1, 0, 1) = CAST", "fault() = 2", "cell(0, 0, 0) = 112");
    }

    private static Run post() {
        return Run.of("pw10m05");
    }

    /** Letter 0 is answered by letter 1, letter 2 is not. */
    private static Run letters() {
        return post().due("send(0, 1, 5, 5) = 0", "answer(0, 5, 9) = 1", "send(0, 1, 6, 5) = 2");
    }

    private static void ofThePost() {
        Sentences.promise(2, "UNKNOWN; OUTSIDE: lane; FAULTS CAST (nothing is no CAST), NULL, SIZE: n is below 0, INDEX: not all cells "
            + "are there; -100 less it.");
        // Of nothing no cast is come to, so that what is ahead of CAST here is NULL.
        new Order(OrderEdges::post, "post(sheet=0, lane=0, i=0, n=7) = 2").told("UNKNOWN", "sheet=-1", "sheet=4")
            .told("OUTSIDE", "lane=-1", "lane=3").told("NULL", "sheet=1").told("CAST", "lane=1", "lane=2").told("SIZE", "n=-1")
            .told("INDEX", "i=-1", "i=8", "n=8").told("-106", "n=6").told("-100", "n=0").hold();
        Sentences.promise(3, "UNKNOWN; OUTSIDE.");
        new Order(OrderEdges::post, "ofPerson(p=1, what=1) = 5").told("UNKNOWN", "p=-1", "p=2").told("OUTSIDE", "what=-1", "what=2")
            .hold();
        Sentences.promise(4, "UNKNOWN; OUTSIDE: 1 .. 99.");
        new Order(OrderEdges::post, "scale(p=1, weight=1) = 4").told("UNKNOWN", "p=-1", "p=2")
            .told("OUTSIDE", "weight=0", "weight=100").hold();
        Sentences.promise(5, "OUTSIDE; STATE: there is no POST.");
        new Order(OrderEdges::post, "law(v=2) = 0").told("OUTSIDE", "v=-1", "v=3").told("STATE", run -> new Run()).hold();
    }

    private static void ofLetters() {
        Sentences.promise(6, "UNKNOWN: PERSONS (they are one: so, too); OUTSIDE: weight, day; FULL.");
        new Order(OrderEdges::letters, "send(from=0, to=1, weight=5, day=5) = 3")
            .told("UNKNOWN", "from=-1", "from=2", "from=1", "to=-1", "to=2", "to=0")
            .told("OUTSIDE", "weight=0", "weight=100", "day=-1", "day=100").told("FULL", run -> run.fill(24)).hold();
        Sentences.promise(7, "UNKNOWN: LETTER; OUTSIDE: weight, day (an earlier one: so, too); STATE: it is ANSWERED; FULL.");
        new Order(OrderEdges::letters, "answer(letter=2, weight=5, day=5) = 3").told("UNKNOWN", "letter=-1", "letter=24")
            .told("OUTSIDE", "weight=0", "weight=100", "day=-1", "day=4", "day=100").told("STATE", "letter=0")
            .told("FULL", run -> run.fill(24)).hold();
        Sentences.promise(8, "UNKNOWN; OUTSIDE.");
        new Order(OrderEdges::letters, "ofLetter(letter=2, what=2) = 6").told("UNKNOWN", "letter=-1", "letter=3")
            .told("OUTSIDE", "what=-1", "what=7").hold();
    }

    private static void ofSums() {
        Sentences.promise(10, "UNKNOWN: PERSON; OUTSIDE: day.");
        new Order(OrderEdges::letters, "paid(p=0, day=9) = 13").told("UNKNOWN", "p=-1", "p=2").told("OUTSIDE", "day=-1", "day=100")
            .hold();
        Sentences.promise(11, "UNKNOWN: PERSONS (they are one: 0); OUTSIDE: day.");
        new Order(OrderEdges::letters, "owes(p=1, other=0, day=8) = 33").told("UNKNOWN", "p=-1", "p=2", "other=-1", "other=2")
            .told("OUTSIDE", "day=-1", "day=100").told("0", "p=0", "other=1").hold();
        Sentences.promise(12, "UNKNOWN: PERSON; OUTSIDE: day.");
        new Order(OrderEdges::letters, "net(p=0, day=8) = 1000033").told("UNKNOWN", "p=-1", "p=2")
            .told("OUTSIDE", "day=-1", "day=100").hold();
        Sentences.promise(13, "OUTSIDE: day; STATE: there is no POST.");
        new Order(OrderEdges::letters, "settled(day=8) = 1").told("OUTSIDE", "day=-1", "day=100").told("STATE", run -> new Run())
            .hold();
    }

    private static void ofAnswers() {
        Sentences.promise(14, "UNKNOWN; OUTSIDE.");
        new Order(OrderEdges::post, "best(p=0, scale=9, what=0) = 10").told("UNKNOWN", "p=-1", "p=2")
            .told("OUTSIDE", "scale=0", "scale=201", "what=-1", "what=2").hold();
        Sentences.promise(15, "UNKNOWN: PERSONS (one: so, too), q below -1; OUTSIDE: n, fine.");
        new Order(OrderEdges::post, "course(first=0, other=1, n=1, fine=9, q=-1) = 1")
            .told("UNKNOWN", "first=-1", "first=2", "first=1", "other=-1", "other=2", "other=0", "q=-2")
            .told("OUTSIDE", "n=0", "n=9", "fine=-1", "fine=1000").told("NONE", "q=1").hold();
        Sentences.promise(16, "UNKNOWN: PERSONS (one: so, too); OUTSIDE: n, fine, what.");
        new Order(OrderEdges::post, "cost(first=0, other=1, n=1, fine=9, what=0) = 0")
            .told("UNKNOWN", "first=-1", "first=2", "first=1", "other=-1", "other=2", "other=0")
            .told("OUTSIDE", "n=0", "n=9", "fine=-1", "fine=1000", "what=-1", "what=2").hold();
    }

    private static Run scales() {
        return post().row(1, 5, 9, 5, 9, 5, 9, 5, 0, 201);
    }

    private static void ofSplit() {
        Sentences.promise(17, "UNKNOWN: PERSON, SHEET; OUTSIDE: lane, weight (1 .. 99); FAULTS CAST, NULL, SIZE, INDEX; OUTSIDE: n is "
            + "not 1 .. 6, above weight, a cell; UNKNOWN: q is not -1 .. n - 1.");
        new Order(OrderEdges::scales, "split(p=0, weight=10, sheet=1, lane=2, i=0, n=2, q=0) = 9")
            .told("UNKNOWN", "p=-1", "p=2", "sheet=-1", "sheet=4")
            .told("OUTSIDE", "lane=-1", "lane=3", "weight=0", "weight=100").told("NULL", "sheet=2").told("CAST", "lane=1", "sheet=0")
            .told("SIZE", "n=-1").told("INDEX", "i=-1", "i=10", "n=10").told("OUTSIDE", "n=0", "n=7", "weight=1", "i=6", "i=7")
            .told("UNKNOWN", "q=-2", "q=7").hold();
        Sentences.terms("2, 17, 20, 22, 23, 24, 27, 29", "Of a call the first that is come to, in the order told;");
        scales().due("split(0, 10, 2, 1, -1, -1, 9) = NULL", "split(0, 10, 1, 1, -1, -1, 9) = CAST",
            "split(0, 10, 1, 2, -1, -1, 9) = SIZE", "split(0, 10, 1, 2, -1, 7, 9) = INDEX", "split(0, 10, 1, 2, 0, 7, 9) = OUTSIDE",
            "split(0, 10, 1, 2, 0, 6, 9) = UNKNOWN", "post(2, 1, -1, -1) = NULL", "post(1, 1, -1, -1) = CAST",
            "post(1, 2, -1, -1) = SIZE", "post(1, 2, -1, 7) = INDEX", "post(1, 2, 0, 7) = -100", "cell(2, -1, 1) = NULL",
            "cell(1, -1, 1) = CAST", "cell(1, -1, 2) = INDEX");
    }

    private static void ofLaws() {
        Sentences.promise(18, "UNKNOWN; OUTSIDE.");
        new Order(OrderEdges::letters, "least(p=0, day=9, what=0) = 1").told("UNKNOWN", "p=-1", "p=2")
            .told("OUTSIDE", "day=-1", "day=100", "what=-1", "what=2").hold();
        Sentences.promise(19, "UNKNOWN: LETTER, PERSON, k below -1; OUTSIDE: day; STATE: the LETTER is not ANSWERED.");
        new Order(OrderEdges::letters, "weights(letter=0, p=0, day=9, v=13, k=0) = 5")
            .told("UNKNOWN", "letter=-1", "letter=3", "p=-1", "p=2", "k=-2").told("OUTSIDE", "day=-1", "day=100")
            .told("STATE", "letter=2").told("NONE", "k=1", "v=-1").hold();
    }

    private static void ofSheets() {
        Sentences.promise(20, "UNKNOWN; OUTSIDE: lane, n above 40; SIZE.");
        new Order(OrderEdges::scales, "sheet(k=1, lane=1, n=40) = 1").told("UNKNOWN", "k=-1", "k=4")
            .told("OUTSIDE", "lane=-1", "lane=3", "n=41").told("SIZE", "n=-1").hold();
        Sentences.promise(22, "UNKNOWN; NULL; INDEX.");
        new Order(OrderEdges::scales, "put(k=1, i=8, v=3) = 1").told("UNKNOWN", "k=-1", "k=4").told("NULL", "k=2")
            .told("INDEX", "i=-1", "i=9").hold();
        Sentences.promise(23, "LOST: UNKNOWN, OUTSIDE: lane; FAULTS CAST (nothing is no CAST), NULL, INDEX.");
        new Order(OrderEdges::scales, "cell(k=1, i=8, lane=2) = 201").told("UNKNOWN", "k=-1", "k=4")
            .told("OUTSIDE", "lane=-1", "lane=3").told("NULL", "k=2").told("CAST", "lane=0", "lane=1", "k=0")
            .told("INDEX", "i=-1", "i=9").hold();
        Sentences.promise(27, "UNKNOWN; OUTSIDE; CAST: it is none");
        new Order(OrderEdges::post, "as(p=1, kind=1) = 1").told("UNKNOWN", "p=-1", "p=2").told("OUTSIDE", "kind=-1", "kind=3")
            .told("CAST", "p=0", "kind=2").hold();
    }

    private static void ofCopy() {
        Sentences.promise(24, "UNKNOWN; FAULTS NULL (the first, the other), CAST (unlike LANES), INDEX: i, j, n below 0 or beyond.");
        new Order(() -> scales().row(3, 1, 2, 3), "copy(k=1, i=0, other=3, j=0, n=2) = 2")
            .told("UNKNOWN", "k=-1", "k=4", "other=-1", "other=4").told("NULL", "k=2", "other=2").told("CAST", "k=0", "other=0")
            .told("INDEX", "i=-1", "i=8", "i=10", "j=-1", "j=2", "j=4", "n=-1", "n=4").hold();
    }
}
