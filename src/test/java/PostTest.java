/** Promises 2 to 5 and 30: the post, its persons, their scale, the law, how many there are. */
public final class PostTest {
    public static void main(String[] args) {
        post();
        textFaults();
        postRefusals();
        postMakesAllAnew();
        ofPerson();
        scale();
        law();
        many();
        Check.end();
    }

    private static void post() {
        AnswerPost x = new AnswerPost();
        Check.due("two persons", Posts.post(x, "pw01m40"), 2);
        Check.due("fault", x.fault(), 0);
        Check.due("six persons", Posts.post(x, "pw01m02l03w10m20l39"), 6);
        Check.due("many(0)", x.many(0), 6);
        for (int lane = 0; lane < 3; lane++) {
            x.sheet(1, lane, 12);
            String text = "zzpl19w09zzz";
            for (int i = 0; i < 12; i++) {
                x.put(1, i, text.charAt(i));
            }
            Check.due("from cell 2 on, lane " + lane, x.post(1, lane, 2, 7), 2);
            Check.due("kind of person 0", x.ofPerson(0, 0), 2);
            Check.due("lift of person 0", x.ofPerson(0, 1), 19);
            Check.due("lift of person 1", x.ofPerson(1, 1), 9);
            Check.due("one code too many", x.post(1, lane, 2, 8), -107);
            Check.due("one code too early", x.post(1, lane, 1, 7), -100);
        }
    }

    private static void textFaults() {
        fault("", 0);
        fault("p", 1);
        fault("pw", 2);
        fault("pw1", 3);
        fault("pw10", 4);
        fault("pw10m", 5);
        fault("pw10m0", 6);
        fault("pw10m05l", 8);
        fault("pw10m05l4", 9);
        fault("w10m05", 0);
        fault("P", 0);
        fault("px10m05", 1);
        fault("p110m05", 1);
        fault("pp10m05", 1);
        fault("pwwwm05", 2);
        fault("pw50m05", 2);
        fault("pw90m05", 2);
        fault("pw/0m05", 2);
        fault("pw00m05", 3);
        fault("pw41m05", 3);
        fault("pw49m05", 3);
        fault("pw1/m05", 3);
        fault("pw1:m05", 3);
        fault("pw0:m05", 3);
        fault("pw4/m05", 3);
        fault("pw10x05", 4);
        fault("pw10m00", 6);
        fault("pw10m05 ", 7);
        fault("pw01w02w03w04w05w06w", 19);
        fault("pw01w02w03w04w05w06w07", 19);
        fault("pw01w02w03w04w05w06x", 19);
        fault("pw01w02w03w04w05w0", 18);
    }

    private static void fault(String text, int place) {
        AnswerPost x = new AnswerPost();
        Check.due("text '" + text + "'", Posts.post(x, text), -100 - place);
        Check.due("no fault of the machine in '" + text + "'", x.fault(), 0);
        Check.due("no persons by '" + text + "'", x.many(0), 0);
    }

    private static void postRefusals() {
        AnswerPost x = Posts.of("pw10m05");
        Check.due("sheet -1", x.post(-1, 0, 0, 7), -1);
        Check.due("sheet 4", x.post(4, 9, 0, 7), -1);
        Check.due("lane -1", x.post(0, -1, 0, 7), -2);
        Check.due("lane 3", x.post(0, 3, 0, -1), -2);
        Check.due("nothing is no cast", x.post(1, 2, 0, -1), -11);
        Check.due("fault null", x.fault(), 1);
        Check.due("another lane", x.post(0, 1, -1, -1), -12);
        Check.due("fault cast", x.fault(), 2);
        Check.due("n below 0", x.post(0, 0, -1, -1), -14);
        Check.due("fault size", x.fault(), 4);
        Check.due("i below 0", x.post(0, 0, -1, 3), -13);
        Check.due("fault index", x.fault(), 3);
        Check.due("too many cells", x.post(0, 0, 0, 8), -13);
        Check.due("i and n wrap", x.post(0, 0, 7, Integer.MAX_VALUE), -13);
        Check.due("i wraps", x.post(0, 0, Integer.MAX_VALUE, 1), -13);
        Check.due("no cells behind the end", x.post(0, 0, 8, 0), -13);
        Check.due("no cells ahead of 0", x.post(0, 0, -1, 0), -13);
        Check.due("no cells at the end", x.post(0, 0, 7, 0), -100);
        Check.due("a text's fault is none", x.fault(), 0);
        x.post(0, 1, 0, 7);
        Check.due("refused", x.post(0, 3, 0, 7), -2);
        Check.due("fault of a refused one", x.fault(), 0);
        Check.due("persons stay", x.many(0), 2);
    }

    private static void postMakesAllAnew() {
        AnswerPost x = Posts.of("pw10m05l07");
        x.send(0, 1, 3, 3);
        x.answer(0, 3, 3);
        x.law(2);
        x.tell(0);
        x.sheet(2, 2, 1);
        x.put(2, 0, 77);
        Check.due("a text with a fault", Posts.post(x, "pw10"), -104);
        Check.due("letters stay", x.many(1), 2);
        Check.due("law stays", x.many(2), 2);
        Check.due("a text", Posts.post(x, "pm11m12"), 2);
        Check.due("persons", x.many(0), 2);
        Check.due("person 2 is gone", x.ofPerson(2, 0), -1);
        Check.due("no letters", x.many(1), 0);
        Check.due("law 0", x.many(2), 0);
        Check.due("trace stays", x.trace(), 1);
        Check.due("sheets stay", x.cell(2, 0, 2), 77);
        Check.due("letters begin anew", x.send(0, 1, 3, 3), 0);
        Check.due("not answered", x.ofLetter(0, 4), -9);
    }

    private static void ofPerson() {
        AnswerPost x = Posts.of("pw01m40l28");
        int[][] want = {{0, 1}, {1, 40}, {2, 28}};
        for (int p = 0; p < 3; p++) {
            Check.due("kind", x.ofPerson(p, 0), want[p][0]);
            Check.due("lift", x.ofPerson(p, 1), want[p][1]);
        }
        Check.due("what -1", x.ofPerson(0, -1), -2);
        Check.due("what 2", x.ofPerson(0, 2), -2);
        Check.due("person 3", x.ofPerson(3, 2), -1);
        Check.due("person -1", x.ofPerson(-1, 0), -1);
    }

    private static void scale() {
        AnswerPost x = Posts.of("pw01m01l01");
        int[][] want = {{1, 1, 4, 4}, {2, 2, 5, 6}, {3, 3, 6, 7}, {10, 10, 13, 18}, {99, 99, 102, 151}};
        for (int[] row : want) {
            for (int p = 0; p < 3; p++) {
                Check.due("scale(" + p + ", " + row[0] + ")", x.scale(p, row[0]), row[p + 1]);
            }
        }
        Check.due("weight 0", x.scale(0, 0), -2);
        Check.due("weight 100", x.scale(2, 100), -2);
        Check.due("person 3", x.scale(3, 0), -1);
        Check.due("person -1", x.scale(-1, 5), -1);
    }

    private static void law() {
        AnswerPost x = new AnswerPost();
        Check.due("no post", x.law(2), -3);
        Check.due("outside comes first", x.law(3), -2);
        x = Posts.of("pw01m01");
        Check.due("law 0 at first", x.law(2), 0);
        Check.due("what it was", x.law(1), 2);
        Check.due("law -1", x.law(-1), -2);
        Check.due("law 3", x.law(3), -2);
        Check.due("it stays", x.law(0), 1);
        Check.due("law is 0", x.many(2), 0);
    }

    private static void many() {
        AnswerPost x = Posts.of("pw01m01l01");
        x.law(1);
        x.send(0, 1, 5, 5);
        x.send(1, 0, 5, 5);
        Check.due("persons", x.many(0), 3);
        Check.due("letters", x.many(1), 2);
        Check.due("law", x.many(2), 1);
        Check.due("many(-1)", x.many(-1), -2);
        Check.due("many(3)", x.many(3), -2);
    }
}
