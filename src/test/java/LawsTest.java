/** Promises 18 and 19: the least law, and the weights of a letter. */
public final class LawsTest {
    public static void main(String[] args) {
        least();
        weights();
        weightsOfAnAnswer();
        weightsByKind();
        weightsRefusals();
        Check.end();
    }

    private static void least() {
        AnswerPost x = Posts.of("pw20m12l15");
        x.law(1);
        x.send(0, 1, 10, 5);
        x.answer(0, 6, 9);
        int[][] want = {{0, 0}, {1, 0}, {0, 0}};
        for (int p = 0; p < 3; p++) {
            Check.due("least law ahead of all", x.least(p, 8, 0), 0);
            Check.due("its sum ahead of all", x.least(p, 8, 1), 0);
            Check.due("least law of " + p, x.least(p, 9, 0), want[p][0]);
            Check.due("its sum of " + p, x.least(p, 9, 1), want[p][1]);
        }
        x.send(0, 1, 5, 9);
        x.answer(2, 6, 9);
        Check.due("least law of 0", x.least(0, 9, 0), 0);
        Check.due("by law 0 it pays 14", x.least(0, 9, 1), 14);
        x.send(0, 1, 5, 9);
        x.answer(4, 30, 9);
        Check.due("least law of 0", x.least(0, 9, 0), 1);
        Check.due("its sum", x.least(0, 9, 1), 19);
        Check.due("least law of 1", x.least(1, 9, 0), 0);
        Check.due("its sum", x.least(1, 9, 1), 19);
        x.send(0, 1, 40, 9);
        x.answer(6, 20, 9);
        Check.due("least law of one of both", x.least(0, 9, 0), 0);
        Check.due("its sum", x.least(0, 9, 1), 52);
        Check.due("least law of one of both", x.least(1, 9, 0), 1);
        Check.due("its sum", x.least(1, 9, 1), 52);
        x.burn(x.many(1));
        // By law 0 person 0 pays 9 + 9, by law 1 20 + 20, by law 2 no more than 4 + 11.
        x.send(0, 1, 4, 0);
        x.answer(0, 20, 0);
        x.send(0, 1, 11, 0);
        x.answer(2, 3, 0);
        Check.due("law 2", x.least(0, 0, 0), 2);
        Check.due("law 2 of 0", x.least(0, 0, 1), 15);
        Check.due("the law stays", x.many(2), 1);
        Check.due("person 3", x.least(3, 100, 0), -1);
        Check.due("person -1", x.least(-1, 0, 0), -1);
        Check.due("day 100", x.least(0, 100, 0), -2);
        Check.due("day -1", x.least(0, -1, 0), -2);
        Check.due("what -1", x.least(0, 0, -1), -2);
        Check.due("what 2", x.least(0, 0, 2), -2);
    }

    private static void weights() {
        AnswerPost x = Posts.of("pw20w12");
        x.send(0, 1, 10, 5);
        x.answer(0, 10, 9);
        Check.due("lighter: it pays for both", x.weights(0, 0, 9, 15, -1), 1);
        Check.due("by a weight of 5", x.weights(0, 0, 9, 15, 0), 5);
        Check.due("heavier: nothing", x.weights(0, 0, 9, 0, -1), 89);
        Check.due("the first of these", x.weights(0, 0, 9, 0, 0), 11);
        Check.due("the last of these", x.weights(0, 0, 9, 0, 88), 99);
        Check.due("no more", x.weights(0, 0, 9, 0, 89), -9);
        Check.due("far off", x.weights(0, 0, 9, 0, Integer.MAX_VALUE), -9);
        Check.due("alike: its own", x.weights(0, 0, 9, 10, 0), 10);
        Check.due("none pays 20", x.weights(0, 0, 9, 20, -1), 0);
        Check.due("none pays 20", x.weights(0, 0, 9, 20, 0), -9);
        Check.due("below 0", x.weights(0, 0, 9, Integer.MIN_VALUE, -1), 0);
        Check.due("by the other one's sum", x.weights(0, 1, 9, 20, 0), -9);
        Check.due("by the other one's sum", x.weights(0, 1, 9, 109, 0), 99);
        Check.due("ahead of the answer", x.weights(0, 0, 8, 0, -1), 99);
        Check.due("ahead of the answer", x.weights(0, 0, 8, 0, 98), 99);
        Check.due("ahead of the answer", x.weights(0, 0, 8, 1, -1), 0);
        x.law(1);
        Check.due("heavier, law 1", x.weights(0, 0, 9, 109, 0), 99);
        x.law(2);
        Check.due("its own, law 2", x.weights(0, 0, 9, 99, -1), 1);
        Check.due("what was written stays", x.ofLetter(0, 2), 10);
    }

    private static void weightsOfAnAnswer() {
        AnswerPost x = Posts.of("pw20w12");
        x.send(0, 1, 10, 5);
        x.answer(0, 20, 6);
        x.answer(1, 30, 7);
        x.law(2);
        Check.due("in both pairs", x.weights(1, 1, 7, 50, 0), 25);
        Check.due("in both pairs", x.weights(1, 1, 7, 51, -1), 0);
        Check.due("by the day of the first pair", x.weights(1, 1, 6, 51, 0), 51);
        Check.due("the other one's is as it was", x.weights(1, 0, 7, 40, -1), 99);
        x.law(0);
        // Lighter than 10 it pays 2 w + 40, at 10 10 + 40, between 10 and 30 w + 30, beyond 30 nothing.
        Check.due("lighter than both", x.weights(1, 1, 7, 42, 0), 1);
        Check.due("in three ways", x.weights(1, 1, 7, 50, -1), 3);
        Check.due("the first", x.weights(1, 1, 7, 50, 0), 5);
        Check.due("the second", x.weights(1, 1, 7, 50, 1), 10);
        Check.due("the third", x.weights(1, 1, 7, 50, 2), 20);
        Check.due("no more", x.weights(1, 1, 7, 50, 3), -9);
        Check.due("heavier than both", x.weights(1, 1, 7, 0, -1), 69);
    }

    private static void weightsByKind() {
        AnswerPost x = Posts.of("pl20w12");
        x.send(0, 1, 10, 5);
        x.answer(0, 99, 6);
        x.law(2);
        Check.due("what the scale of 11 shows", x.weights(0, 0, 6, 19, 0), 11);
        Check.due("the scale shows no 5", x.weights(0, 0, 6, 5, -1), 0);
        Check.due("the heaviest", x.weights(0, 0, 6, 151, 0), 99);
    }

    private static void weightsRefusals() {
        AnswerPost x = Posts.of("pw20w12");
        x.send(0, 1, 10, 5);
        x.answer(0, 10, 9);
        Check.due("letter 2", x.weights(2, 0, 100, 0, 0), -1);
        Check.due("letter -1", x.weights(-1, 0, 0, 0, 0), -1);
        Check.due("person 2", x.weights(0, 2, 100, 0, 0), -1);
        Check.due("person -1", x.weights(0, -1, 0, 0, 0), -1);
        Check.due("k -2", x.weights(0, 0, 100, 0, -2), -1);
        Check.due("day 100", x.weights(1, 0, 100, 0, 0), -2);
        Check.due("day -1", x.weights(1, 0, -1, 0, 0), -2);
        Check.due("not answered", x.weights(1, 0, 9, 0, 0), -3);
    }
}
