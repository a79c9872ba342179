/** Promises 14 to 17: the best answer, back and forth, and a letter in parts. */
public final class AnswersTest {
    public static void main(String[] args) {
        best();
        courseOfFew();
        courseOfTheStrongest();
        courseByLaws();
        courseRefusals();
        split();
        splitRefusals();
        Check.end();
    }

    private static void best(AnswerPost x, int p, int scale, int weight, int pays) {
        Check.due("best(" + p + ", " + scale + ", 0)", x.best(p, scale, 0), weight);
        Check.due("best(" + p + ", " + scale + ", 1)", x.best(p, scale, 1), pays);
    }

    private static void best() {
        AnswerPost x = Posts.of("pw20m12l15");
        best(x, 0, 9, 10, 0);
        best(x, 0, 19, 20, 0);
        best(x, 0, 20, 20, 20);
        best(x, 0, 21, 1, 22);
        best(x, 0, 200, 1, 201);
        best(x, 1, 3, 1, 0);
        best(x, 1, 14, 12, 0);
        best(x, 1, 15, 12, 15);
        best(x, 2, 24, 15, 0);
        best(x, 2, 25, 15, 25);
        best(x, 2, 26, 1, 30);
        Posts.post(x, "pw02m01l01");
        best(x, 0, 1, 2, 0);
        best(x, 0, 2, 2, 2);
        best(x, 1, 1, 1, 0);
        Posts.post(x, "pw20m12l15");
        x.law(1);
        best(x, 0, 1, 1, 1);
        best(x, 0, 2, 1, 0);
        best(x, 1, 3, 1, 7);
        best(x, 1, 4, 1, 4);
        best(x, 1, 5, 1, 0);
        x.law(2);
        best(x, 0, 200, 1, 1);
        best(x, 1, 1, 1, 4);
        Check.due("person 3", x.best(3, 0, 0), -1);
        Check.due("person -1", x.best(-1, 1, 0), -1);
        Check.due("scale 0", x.best(0, 0, 0), -2);
        Check.due("scale 201", x.best(0, 201, 0), -2);
        Check.due("what -1", x.best(0, 1, -1), -2);
        Check.due("what 2", x.best(0, 1, 2), -2);
    }

    private static void course(AnswerPost x, int[] who, int n, int fine, int[] costs, int... row) {
        String call = "of " + who[0] + ", " + who[1] + ", " + n + ", " + fine;
        Check.due("how many " + call, x.course(who[0], who[1], n, fine, -1), row.length);
        for (int q = 0; q < 9; q++) {
            int want = q < row.length ? row[q] : -9;
            Check.due("letter " + q + " " + call, x.course(who[0], who[1], n, fine, q), want);
        }
        Check.due("cost of the first " + call, x.cost(who[0], who[1], n, fine, 0), costs[0]);
        Check.due("cost of the other " + call, x.cost(who[0], who[1], n, fine, 1), costs[1]);
    }

    private static void courseOfFew() {
        AnswerPost x = Posts.of("pw02w03m01");
        int[] who = {0, 1};
        for (int v = 0; v < 3; v++) {
            x.law(v);
            course(x, who, 1, 0, new int[] {0, 0}, 1);
            course(x, who, 1, 999, new int[] {0, 0}, 1);
        }
        // Each its own: an answer costs 1 at least, so a fine of 1 is as good, and nothing is less.
        course(x, who, 2, 0, new int[] {0, 0}, 1);
        course(x, who, 2, 1, new int[] {0, 1}, 1);
        course(x, who, 2, 2, new int[] {1, 1}, 1, 1);
        // Who writes in between is in two pairs.
        course(x, who, 3, 9, new int[] {2, 2}, 1, 1, 1);
        // The third letter would be written, so that the second one costs 2, no less than the fine.
        course(x, who, 3, 2, new int[] {0, 2}, 1);
        // Four letters would cost the second one 3: no less than a fine of 3, but less than one of 4.
        course(x, who, 4, 3, new int[] {0, 3}, 1);
        course(x, who, 4, 4, new int[] {3, 3}, 1, 1, 1, 1);
        course(x, new int[] {2, 0}, 2, 5, new int[] {4, 1}, 1, 1);
        course(x, new int[] {0, 2}, 2, 4, new int[] {0, 4}, 1);
        course(x, new int[] {0, 2}, 2, 5, new int[] {1, 4}, 1, 1);
        // The lighter one pays: the answer of 3 is heavier than all that the first one lifts.
        x.law(0);
        course(x, who, 2, 9, new int[] {3, 0}, 1, 2);
        // Behind the other's letter of 3 the first one can't write a heavier one.
        course(x, new int[] {1, 0}, 2, 9, new int[] {0, 4}, 3, 1);
        course(x, new int[] {1, 0}, 2, 3, new int[] {0, 3}, 3);
        // 2 and 3 are both without cost for the first one: of these the least.
        course(x, new int[] {1, 0}, 2, 1, new int[] {0, 1}, 2);
        x.law(1);
        course(x, who, 2, 9, new int[] {1, 1}, 1, 1);
    }

    private static void courseOfTheStrongest() {
        AnswerPost x = Posts.of("pm37w40l40l40");
        // What three letters left of a weight of 40 is nothing to two.
        course(x, new int[] {0, 1}, 3, 999, new int[] {0, 10}, 1, 1, 1);
        course(x, new int[] {0, 1}, 2, 41, new int[] {9, 0}, 1, 5);
        x.law(2);
        course(x, new int[] {2, 3}, 8, 999, new int[] {28, 28}, 1, 1, 1, 1, 1, 1, 1, 1);
    }

    private static void courseByLaws() {
        AnswerPost x = Posts.of("pw20m12l15w08");
        Check.due("law 0, 1 and 2", x.course(1, 2, 5, 20, -1), 2);
        Check.due("law 0, letter 1", x.course(1, 2, 5, 20, 1), 2);
        Check.due("law 0, cost 0", x.cost(1, 2, 5, 20, 0), 30);
        Check.due("law 0, cost 1", x.cost(1, 2, 5, 20, 1), 0);
        Check.due("law 0, 2 and 0", x.cost(2, 0, 8, 999, 1), 154);
        x.law(1);
        Check.due("law 1, 1 and 2", x.course(1, 2, 5, 20, -1), 5);
        Check.due("law 1, letter 3", x.course(1, 2, 5, 20, 3), 1);
        Check.due("law 1, cost 0", x.cost(1, 2, 5, 20, 0), 16);
        Check.due("law 1, cost 1", x.cost(1, 2, 5, 20, 1), 16);
        Check.due("law 1, 2 and 0", x.cost(2, 0, 8, 999, 0), 35);
        Check.due("letters are not kept", x.many(1), 0);
    }

    private static void courseRefusals() {
        AnswerPost x = Posts.of("pw20m12");
        int[][] unknown = {{-1, 0}, {0, -1}, {2, 0}, {0, 2}, {1, 1}};
        for (int[] who : unknown) {
            Check.due("course of no such persons", x.course(who[0], who[1], 0, 0, 0), -1);
            Check.due("cost of no such persons", x.cost(who[0], who[1], 0, 0, 2), -1);
        }
        Check.due("q -2", x.course(0, 1, 9, 0, -2), -1);
        Check.due("q far off", x.course(0, 1, 8, 0, Integer.MAX_VALUE), -9);
        int[][] outside = {{0, 0}, {9, 0}, {1, -1}, {1, 1000}};
        for (int[] row : outside) {
            Check.due("course outside", x.course(0, 1, row[0], row[1], 9), -2);
            Check.due("cost outside", x.cost(0, 1, row[0], row[1], 0), -2);
        }
        Check.due("what -1", x.cost(0, 1, 1, 0, -1), -2);
        Check.due("what 2", x.cost(0, 1, 1, 0, 2), -2);
    }

    private static void split(AnswerPost x, int p, int weight, int n, int pays, int... row) {
        String call = "split of " + p + ", " + weight + ", " + n;
        Check.due(call, x.split(p, weight, 1, 2, 0, n, -1), pays);
        for (int q = 0; q < row.length; q++) {
            Check.due(call + ", part " + q, x.split(p, weight, 1, 2, 0, n, q), row[q]);
        }
        Check.due(call + ", fault", x.fault(), 0);
    }

    private static void split() {
        AnswerPost x = Posts.of("pw20m12l15");
        Posts.row(x, 1, 5, 9);
        split(x, 0, 10, 2, 10, 9, 1);
        split(x, 1, 10, 2, 0, 3, 7);
        split(x, 2, 2, 2, 22, 1, 1);
        x.law(2);
        split(x, 0, 10, 2, 10, 1, 9);
        split(x, 2, 10, 2, 20, 1, 9);
        x.law(1);
        split(x, 0, 10, 2, 0, 2, 8);
        split(x, 0, 12, 2, 0, 4, 8);
        // One of both has to be as heavy as its answer: the lighter one.
        split(x, 0, 13, 2, 5, 5, 8);
        Posts.row(x, 1, 200, 1, 1, 1, 1, 200);
        split(x, 0, 99, 6, 4, 1, 1, 1, 1, 1, 94);
        split(x, 0, 6, 6, 4, 1, 1, 1, 1, 1, 1);
        x.law(0);
        // All who answer with 1 are outweighed by 2; both 200s stay as they are.
        split(x, 0, 99, 6, 402, 1, 2, 2, 2, 91, 1);
        split(x, 0, 99, 1, 299, 99);
        split(x, 2, 99, 1, 351, 99);
        // A part may be heavier than what it can lift.
        Posts.row(x, 1, 150);
        split(x, 2, 99, 1, 0, 99);
        split(x, 2, 98, 1, 150, 98);
        split(x, 0, 1, 1, 151, 1);
        x.sheet(2, 0, 3);
        x.put(2, 1, 5);
        x.put(2, 2, 9);
        Check.due("bytes from cell 1 on", x.split(1, 10, 2, 0, 1, 2, 0), 3);
    }

    private static void splitRefusals() {
        AnswerPost x = Posts.of("pw20m12l15");
        Posts.row(x, 1, 5, 9, 201, 0, 1, 1, 1, 1, 1, 1, 1);
        Check.due("person 3", x.split(3, 0, 1, 3, 0, 2, 0), -1);
        Check.due("sheet 4", x.split(0, 0, 4, 2, 0, 2, 0), -1);
        Check.due("sheet -1", x.split(0, 10, -1, 2, 0, 2, 0), -1);
        Check.due("lane 3", x.split(0, 10, 1, 3, 0, -2, 0), -2);
        Check.due("weight 0", x.split(0, 0, 1, 1, 0, 2, 0), -2);
        Check.due("weight 100", x.split(0, 100, 1, 2, 0, 2, 0), -2);
        Check.due("another lane", x.split(0, 10, 1, 1, 0, -2, 0), -12);
        Check.due("fault cast", x.fault(), 2);
        Check.due("nothing", x.split(0, 10, 2, 1, 0, -2, 0), -11);
        Check.due("fault null", x.fault(), 1);
        Check.due("n below 0", x.split(0, 10, 1, 2, -1, -2, 0), -14);
        Check.due("fault size", x.fault(), 4);
        Check.due("i below 0", x.split(0, 10, 1, 2, -1, 0, 0), -13);
        Check.due("fault index", x.fault(), 3);
        Check.due("not all there", x.split(0, 10, 1, 2, 10, 2, 9), -13);
        Check.due("not all there, and n above 6", x.split(0, 10, 1, 2, 0, 12, 9), -13);
        Check.due("no parts", x.split(0, 10, 1, 2, 0, 0, 9), -2);
        Check.due("fault of a refused one", x.fault(), 0);
        Check.due("seven parts", x.split(0, 10, 1, 2, 4, 7, 9), -2);
        Check.due("more parts than weight", x.split(0, 1, 1, 2, 0, 2, 9), -2);
        Check.due("a cell of 201", x.split(0, 10, 1, 2, 1, 2, 9), -2);
        Check.due("a cell of 0", x.split(0, 10, 1, 2, 3, 2, 9), -2);
        Check.due("q -2", x.split(0, 10, 1, 2, 0, 2, -2), -1);
        Check.due("q 2", x.split(0, 10, 1, 2, 0, 2, 2), -1);
        Check.due("fault of an unknown one", x.fault(), 0);
    }
}
