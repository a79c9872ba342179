/** Promises 1 to 5 and 30 and part 1 of the terms, sentence by sentence, on both sides of their bounds. */
final class PostEdges {
    private static final String SIX = "pw10m21l32w40m09l01";

    private PostEdges() {
    }

    static void hold() {
        newObject();
        howManyPersons();
        lifts();
        firstFault();
        everyCode();
        kinds();
        allAnew();
        scales();
        post();
        postFaults();
        ofPerson();
        scale();
        law();
        many();
    }

    private static void newObject() {
        Sentences.promise(1, "No POST (no PERSONS), SHEETS have nothing.");
        new Run().due("fault() = 0", "trace() = 0", "many(0) = 0", "many(1) = 0", "many(2) = 0",
            "ofPerson(0, 0) = UNKNOWN", "scale(0, 1) = UNKNOWN", "law(0) = STATE", "send(0, 1, 1, 0) = UNKNOWN",
            "answer(0, 1, 0) = UNKNOWN", "ofLetter(0, 0) = UNKNOWN", "burn(0) = 0", "burn(1) = OUTSIDE",
            "paid(0, 0) = UNKNOWN", "owes(0, 1, 0) = UNKNOWN", "owes(0, 0, 0) = UNKNOWN", "net(0, 0) = UNKNOWN",
            "settled(0) = STATE", "best(0, 1, 0) = UNKNOWN", "course(0, 1, 1, 0, -1) = UNKNOWN",
            "cost(0, 1, 1, 0, 0) = UNKNOWN", "split(0, 1, 0, 0, 0, 1, 0) = UNKNOWN", "least(0, 0, 0) = UNKNOWN",
            "weights(0, 0, 0, 0, -1) = UNKNOWN", "tell(0) = UNKNOWN", "greet(0) = UNKNOWN", "as(0, 0) = UNKNOWN");
        for (int k = 0; k < 4; k++) {
            new Run().due("post(" + k + ", 0, 0, 0) = NULL", "put(" + k + ", 0, 0) = NULL",
                "cell(" + k + ", 0, 0) = NULL", "copy(" + k + ", 0, " + k + ", 0, 0) = NULL", "lose(" + k + ") = 0");
        }
    }

    private static void howManyPersons() {
        Sentences.terms("2, 3", "A POST by a TEXT: p, then 2 to 6 PERSONS, numbered from 0 on, each a letter and two digits");
        new Run().text("p", -101).text("pw10", -104);
        new Run().text("pw10m21", 2).due("ofPerson(-1, 1) = UNKNOWN", "ofPerson(0, 1) = 10", "ofPerson(1, 1) = 21",
            "ofPerson(2, 1) = UNKNOWN");
        new Run().text("pw10m21l32", 3).text("pw10m21l32w40", 4).text("pw10m21l32w40m09", 5);
        new Run().text(SIX, 6).due("ofPerson(0, 1) = 10", "ofPerson(5, 1) = 1", "ofPerson(6, 1) = UNKNOWN",
            "ofPerson(MAX, 1) = UNKNOWN", "ofPerson(MIN, 1) = UNKNOWN");
        new Run().text(SIX + "w10", -119);
    }

    private static void lifts() {
        Sentences.terms("2, 3", "two digits 01 .. 40 (LIFT).");
        String[] heads = {"p", "pw10", "pw10m21l32w40m09"};
        for (String head : heads) {
            int p = (head.length() - 1) / 3;
            for (String kind : new String[] {"w", "m", "l"}) {
                for (int lift = 0; lift <= 49; lift++) {
                    String person = kind + lift / 10 + lift % 10;
                    String text = head.equals("p") ? head + person + "w10" : head + person;
                    boolean isLift = lift >= 1 && lift <= 40;
                    Run run = new Run().text(text, isLift ? (text.length() - 1) / 3 : -100 - head.length() - 2);
                    run.due("ofPerson(" + p + ", 1) = " + (isLift ? lift : "UNKNOWN"));
                }
            }
        }
    }

    private static void firstFault() {
        Sentences.terms("2", "FIRST FAULT: the place (from 0 on) of the first code with which no TEXT goes on");
        new Run().text("wp", -100).text("ppp", -101).text("pwp", -102).text("pw1w", -103).text("pw10p", -104)
            .text("pw10m21p", -107).text("pw00m00", -103).text("pw50m99", -102).text("qw10x", -100);
        Sentences.terms("2", "(a first digit above 4;");
        new Run().text("pw40m05", 2).text("pw50m05", -102).text("pw10m40", 2).text("pw10m50", -105).text("pw10m99", -105);
        Sentences.terms("2", "of 00 and of 41 .. 49 the second one;");
        new Run().text("pw00m05", -103).text("pw01m05", 2).text("pw40m05", 2).text("pw41m05", -103).text("pw49m05", -103)
            .text("pw10m00", -106).text("pw10m01", 2).text("pw10m39", 2).text("pw10m40", 2).text("pw10m41", -106);
        Sentences.terms("2", "the letter of a seventh PERSON);");
        new Run().text(SIX, 6).text(SIX + "w", -119);
        new Run().text(SIX + "w01", -119).text(SIX + "?", -119);
        new Run().text(SIX.substring(0, 16) + "w00w", -118).text(SIX.substring(0, 16) + "w4", -118);
        Sentences.terms("2", "how many codes there are, if it just ends too soon.");
        for (int n = 0; n <= SIX.length(); n++) {
            boolean isWhole = n >= 7 && n % 3 == 1;
            new Run().text(SIX.substring(0, n), isWhole ? (n - 1) / 3 : -100 - n);
        }
    }

    /** Each code that a byte holds at each place of a text. */
    private static void everyCode() {
        Sentences.terms("2", "(Codes: p 112, w 119, m 109, l 108, digits 48 .. 57.)");
        for (int at = 0; at < SIX.length(); at++) {
            for (int low = -128; low < 128; low += 64) {
                AnswerPost x = new AnswerPost();
                Posts.post(x, SIX);
                for (int code = low; code < low + 64; code++) {
                    x.put(0, at, code);
                    Check.due(Sentences.now() + code + " at " + at, x.post(0, 0, 0, SIX.length()), dueWith(at, code));
                }
            }
        }
        Run wide = Run.of("pw10m05").row(1, 112, 119, 49, 48, 109, 48, 53);
        wide.due("post(1, 2, 0, 7) = 2", "put(1, 0, 368) = 1", "post(1, 2, 0, 7) = -100", "put(1, 0, 112) = 1",
            "put(1, 1, 65655) = 1", "post(1, 2, 0, 7) = -101", "put(1, 1, 108) = 1", "put(1, 3, -208) = 1",
            "post(1, 2, 0, 7) = -103", "put(1, 3, 57) = 1", "post(1, 2, 0, 7) = 2");
        Run cut = Run.of("pw10m05").due("put(0, 0, 368) = 1", "post(0, 0, 0, 7) = 2");
        cut.due("sheet(1, 1, 1) = 1", "put(1, 0, 65648) = 1", "post(1, 1, 0, 1) = -101", "put(1, 0, 368) = 1",
            "post(1, 1, 0, 1) = -100");
    }

    /** What six persons' text answers with another code at one place. */
    private static int dueWith(int at, int code) {
        if (at == 0) {
            return code == 112 ? 6 : -100;
        }
        if (at % 3 == 1) {
            return code == 119 || code == 109 || code == 108 ? 6 : -100 - at;
        }
        if (at % 3 == 2) {
            char second = SIX.charAt(at + 1);
            if (code < 48 || code > 52) {
                return -100 - at;
            }
            boolean isNoLift = code == 48 && second == '0' || code == 52 && second != '0';
            return isNoLift ? -100 - at - 1 : 6;
        }
        char first = SIX.charAt(at - 1);
        int least = first == '0' ? 49 : 48;
        int most = first == '4' ? 48 : 57;
        return code >= least && code <= most ? 6 : -100 - at;
    }

    private static void kinds() {
        Sentences.terms("3, 27", "Kinds: 0 WRITER (w); 1 MISER (m), a WRITER; 2 LAWYER (l), a MISER.");
        Run.of("pw10m10l10").due("ofPerson(0, 0) = 0", "ofPerson(1, 0) = 1", "ofPerson(2, 0) = 2",
            "as(0, 0) = 1", "as(0, 1) = CAST", "as(0, 2) = CAST", "as(1, 0) = 1", "as(1, 1) = 1", "as(1, 2) = CAST",
            "as(2, 0) = 1", "as(2, 1) = 1", "as(2, 2) = 1");
    }

    private static void allAnew() {
        Sentences.terms("2, 5, 28, 30", "A TEXT that is taken makes all anew, but for the SHEETS and TRACE: no LETTERS, LAW 0.");
        Run run = Run.of("pw10m21l32").row(2, 7, -8).due("lose(3) = 0", "law(2) = 0", "send(0, 1, 5, 0) = 0",
            "answer(0, 5, 0) = 1", "tell(0) = 10", "trace() = 1");
        run.text("pw10m2", -106).due("many(0) = 3", "many(1) = 2", "many(2) = 2", "ofLetter(0, 4) = 1", "trace() = 1");
        run.text("pl11w12", 2).due("many(0) = 2", "many(1) = 0", "many(2) = 0", "ofLetter(0, 0) = UNKNOWN",
            "ofPerson(0, 0) = 2", "ofPerson(1, 0) = 0", "ofPerson(2, 0) = UNKNOWN", "paid(0, 99) = 0",
            "net(0, 99) = 1000000", "settled(99) = 0", "trace() = 1", "law(1) = 0", "send(0, 1, 5, 3) = 0",
            "ofLetter(0, 4) = NONE", "ofLetter(0, 5) = NONE").rowIs(2, 2, 7, -8);
        run.due("post(0, 0, 0, 7) = 2", "many(1) = 0", "many(2) = 0", "tell(1) = 12", "trace() = 32");
    }

    private static void scales() {
        Sentences.terms("4, 8", "Of a letter written so heavy (1 .. 99) the SCALE shows: by a WRITER just that;");
        Run.of("pw01m40").due("scale(0, 0) = OUTSIDE", "scale(0, 1) = 1", "scale(0, 2) = 2", "scale(0, 99) = 99",
            "scale(0, 100) = OUTSIDE");
        Sentences.terms("4, 8", "by a MISER (who writes on slate) 3 more;");
        Run.of("pw40m01").due("scale(1, 0) = OUTSIDE", "scale(1, 1) = 4", "scale(1, 2) = 5", "scale(1, 99) = 102",
            "scale(1, 100) = OUTSIDE");
        Sentences.terms("4, 8", "by a LAWYER (who encloses lead) half of what it wrote (cut) more than by a MISER.");
        Run.of("pw40l01").due("scale(1, 0) = OUTSIDE", "scale(1, 1) = 4", "scale(1, 2) = 6", "scale(1, 3) = 7",
            "scale(1, 4) = 9", "scale(1, 97) = 148", "scale(1, 98) = 150", "scale(1, 99) = 151", "scale(1, 100) = OUTSIDE");
        AnswerPost x = Posts.of("pw01m01l01");
        for (int w = 1; w <= 99; w++) {
            Check.due(Sentences.now() + w, x.scale(0, w), w);
            Check.due(Sentences.now() + w, x.scale(1, w), w + 3);
            Check.due(Sentences.now() + w, 2 * x.scale(2, w) + w % 2, 3 * w + 6);
        }
    }

    private static void post() {
        Sentences.promise(2, "A POST by a TEXT of n cells of a SHEET from i on, taken as a row of a LANE: how many PERSONS; "
            + "-100 less the FIRST FAULT.");
        for (int lane = 0; lane < 3; lane++) {
            Run run = new Run().due("sheet(3, " + lane + ", 40) = 1");
            String text = "pm40l01";
            for (int i = 0; i < text.length(); i++) {
                run.due("put(3, " + (33 + i) + ", " + (int) text.charAt(i) + ") = 1");
            }
            run.due("post(3, " + lane + ", 33, 6) = -106", "post(3, " + lane + ", 32, 7) = -100",
                "post(3, " + lane + ", 34, 6) = -100", "post(3, " + lane + ", 33, 0) = -100", "many(0) = 0",
                "post(3, " + lane + ", 33, 7) = 2", "ofPerson(0, 1) = 40", "ofPerson(1, 0) = 2", "ofPerson(1, 1) = 1",
                "post(3, " + lane + ", 33, 1) = -101", "post(3, " + lane + ", 0, 40) = -100", "many(0) = 2");
        }
        Sentences.promise(2, "UNKNOWN;");
        Run run = Run.of("pw10m05");
        run.due("post(-1, 0, 0, 7) = UNKNOWN", "post(4, 0, 0, 7) = UNKNOWN", "post(MIN, 0, 0, 7) = UNKNOWN",
            "post(MAX, 0, 0, 7) = UNKNOWN", "sheet(3, 0, 1) = 1", "put(3, 0, 112) = 1", "post(3, 0, 0, 1) = -101");
        Sentences.promise(2, "OUTSIDE: lane;");
        run.due("post(0, -1, 0, 7) = OUTSIDE", "post(0, 3, 0, 7) = OUTSIDE", "post(0, MIN, 0, 7) = OUTSIDE",
            "post(0, MAX, 0, 7) = OUTSIDE", "post(0, 0, 0, 7) = 2", "sheet(1, 2, 1) = 1", "post(1, 2, 0, 1) = -100");
    }

    private static void postFaults() {
        Sentences.promise(2, "FAULTS CAST (nothing is no CAST), NULL,");
        Run run = Run.of("pw10m05").due("sheet(1, 1, 0) = 1", "sheet(2, 2, 0) = 1");
        run.due("post(0, 1, 0, 7) = CAST", "post(0, 2, 0, 7) = CAST", "post(1, 0, 0, 0) = CAST", "post(1, 2, 0, 0) = CAST",
            "post(2, 0, 0, 0) = CAST", "post(2, 1, 0, 0) = CAST", "post(0, 0, 0, 7) = 2", "post(1, 1, 0, 0) = -100",
            "post(2, 2, 0, 0) = -100", "post(3, 0, 0, 7) = NULL", "post(3, 1, 0, 7) = NULL", "post(3, 2, 0, 7) = NULL");
        Sentences.promise(2, "SIZE: n is below 0,");
        run.due("post(0, 0, 0, -1) = SIZE", "post(0, 0, 0, MIN) = SIZE", "post(0, 0, 7, -1) = SIZE",
            "post(0, 0, 0, 0) = -100", "post(1, 1, 0, -1) = SIZE");
        Sentences.promise(2, "INDEX: not all cells are there;");
        run.due("post(0, 0, 0, 7) = 2", "post(0, 0, 0, 8) = INDEX", "post(0, 0, 1, 6) = -100", "post(0, 0, 1, 7) = INDEX",
            "post(0, 0, 6, 1) = -100", "post(0, 0, 6, 2) = INDEX", "post(0, 0, 7, 0) = -100", "post(0, 0, 7, 1) = INDEX",
            "post(0, 0, 8, 0) = INDEX", "post(0, 0, -1, 0) = INDEX", "post(0, 0, -1, 7) = INDEX", "post(1, 1, 0, 0) = -100",
            "post(1, 1, 0, 1) = INDEX", "post(1, 1, 1, 0) = INDEX", "post(0, 0, 0, MAX) = INDEX",
            "post(0, 0, 1, MAX) = INDEX", "post(0, 0, MAX, MAX) = INDEX", "post(0, 0, MAX, 0) = INDEX",
            "post(0, 0, MIN, 0) = INDEX", "post(0, 0, MIN, MAX) = INDEX");
        Sentences.promise(2, "-100 less it.");
        run.due("put(0, 0, 0) = 1", "post(0, 0, 0, 8) = INDEX", "post(0, 0, 0, 7) = -100", "fault() = 0");
    }

    private static void ofPerson() {
        Sentences.promise(3, "Of a PERSON: 0 kind, 1 LIFT.");
        Run run = Run.of("pw01m40l28").due("ofPerson(0, 0) = 0", "ofPerson(0, 1) = 1", "ofPerson(1, 0) = 1",
            "ofPerson(1, 1) = 40", "ofPerson(2, 0) = 2", "ofPerson(2, 1) = 28");
        Sentences.promise(3, "UNKNOWN;");
        run.due("ofPerson(-1, 0) = UNKNOWN", "ofPerson(3, 0) = UNKNOWN", "ofPerson(3, 1) = UNKNOWN",
            "ofPerson(5, 0) = UNKNOWN", "ofPerson(6, 0) = UNKNOWN", "ofPerson(MIN, 0) = UNKNOWN", "ofPerson(MAX, 0) = UNKNOWN");
        Sentences.promise(3, "OUTSIDE.");
        run.due("ofPerson(0, -1) = OUTSIDE", "ofPerson(2, 2) = OUTSIDE", "ofPerson(0, MIN) = OUTSIDE",
            "ofPerson(0, MAX) = OUTSIDE");
        Run.of(SIX).due("ofPerson(5, 0) = 2", "ofPerson(6, 0) = UNKNOWN");
    }

    private static void scale() {
        Sentences.promise(4, "What the SCALE shows of what a PERSON writes so heavy.");
        Run run = Run.of("pw01m01l01").due("scale(0, 99) = 99", "scale(1, 99) = 102", "scale(2, 99) = 151");
        Sentences.promise(4, "UNKNOWN;");
        run.due("scale(-1, 1) = UNKNOWN", "scale(2, 1) = 4", "scale(3, 1) = UNKNOWN", "scale(MIN, 1) = UNKNOWN",
            "scale(MAX, 1) = UNKNOWN");
        Sentences.promise(4, "OUTSIDE: 1 .. 99.");
        run.due("scale(0, 0) = OUTSIDE", "scale(0, 1) = 1", "scale(0, 99) = 99", "scale(0, 100) = OUTSIDE",
            "scale(2, -1) = OUTSIDE", "scale(2, MIN) = OUTSIDE", "scale(2, MAX) = OUTSIDE");
    }

    private static void law() {
        Sentences.promise(5, "The LAW becomes v: what it was.");
        Run run = Run.of("pw10m05").due("law(1) = 0", "law(1) = 1", "law(2) = 1", "many(2) = 2", "law(0) = 2", "law(2) = 0");
        Sentences.promise(5, "OUTSIDE;");
        run.due("law(-1) = OUTSIDE", "law(3) = OUTSIDE", "law(MIN) = OUTSIDE", "law(MAX) = OUTSIDE", "many(2) = 2",
            "law(2) = 2");
        Sentences.promise(5, "STATE: there is no POST.");
        new Run().due("law(0) = STATE", "law(2) = STATE", "many(2) = 0").text("pw10", -104).due("law(1) = STATE")
            .text("pw10m05", 2).due("law(1) = 0", "many(2) = 1");
    }

    private static void many() {
        Sentences.promise(30, "How many: 0 PERSONS, 1 LETTERS, 2 the LAW (0 all without a POST).");
        new Run().due("many(0) = 0", "many(1) = 0", "many(2) = 0");
        Run run = Run.of(SIX).due("many(0) = 6", "many(1) = 0", "many(2) = 0", "law(2) = 0", "many(2) = 2").fill(23);
        run.due("many(1) = 23", "answer(0, 1, 0) = 23", "many(1) = 24", "burn(24) = 0", "many(1) = 0", "many(0) = 6",
            "many(2) = 2");
        Sentences.promise(30, "OUTSIDE.");
        run.due("many(-1) = OUTSIDE", "many(3) = OUTSIDE", "many(MIN) = OUTSIDE", "many(MAX) = OUTSIDE");
    }
}
