/** Promises 6 to 13: letters, answers, what was paid, what is owed, and how it is settled. */
public final class LettersTest {
    public static void main(String[] args) {
        send();
        answer();
        ofLetter();
        burn();
        paid();
        paidAlike();
        owes();
        net();
        settled();
        Check.end();
    }

    private static void send() {
        AnswerPost x = Posts.of("pw20m12l15w08");
        Check.due("the first one", x.send(0, 1, 10, 5), 0);
        Check.due("beyond what it can lift", x.send(3, 0, 99, 99), 1);
        Check.due("the least", x.send(2, 3, 1, 0), 2);
        Check.due("from -1", x.send(-1, 1, 1, 1), -1);
        Check.due("from 4", x.send(4, 1, 1, 1), -1);
        Check.due("to -1", x.send(0, -1, 1, 1), -1);
        Check.due("to 4", x.send(0, 4, 0, 1), -1);
        Check.due("to itself", x.send(2, 2, 0, 0), -1);
        Check.due("weight 0", x.send(0, 1, 0, 1), -2);
        Check.due("weight 100", x.send(0, 1, 100, 1), -2);
        Check.due("day -1", x.send(0, 1, 1, -1), -2);
        Check.due("day 100", x.send(0, 1, 1, 100), -2);
        for (int k = 3; k < 24; k++) {
            Check.due("letter " + k, x.send(0, 1, 1, 1), k);
        }
        Check.due("full", x.send(0, 1, 1, 1), -4);
        Check.due("outside ahead of full", x.send(0, 1, 0, 1), -2);
        Check.due("unknown ahead of full", x.send(0, 0, 1, 1), -1);
        Check.due("24 letters", x.many(1), 24);
    }

    private static void answer() {
        AnswerPost x = Posts.of("pw20m12l15");
        x.send(0, 1, 10, 5);
        Check.due("letter -1", x.answer(-1, 1, 5), -1);
        Check.due("letter 1", x.answer(1, 0, 5), -1);
        Check.due("weight 0", x.answer(0, 0, 5), -2);
        Check.due("weight 100", x.answer(0, 100, 5), -2);
        Check.due("day 100", x.answer(0, 1, 100), -2);
        Check.due("day -1", x.answer(0, 1, -1), -2);
        Check.due("an earlier day", x.answer(0, 1, 4), -2);
        Check.due("the least weight", x.answer(0, 1, 5), 1);
        x.burn(1);
        Check.due("the most weight", x.answer(0, 99, 5), 1);
        x.burn(1);
        Check.due("the same day", x.answer(0, 7, 5), 1);
        Check.due("answered", x.answer(0, 7, 6), -3);
        Check.due("outside ahead of answered", x.answer(0, 7, 4), -2);
        Check.due("an answer answered", x.answer(1, 9, 99), 2);
        Check.due("an answer of the last day", x.answer(2, 9, 98), -2);
        for (int k = 3; k < 24; k++) {
            x.send(0, 2, 1, 1);
        }
        Check.due("full", x.answer(2, 9, 99), -4);
        Check.due("answered ahead of full", x.answer(1, 9, 99), -3);
        Check.due("outside ahead of full", x.answer(2, 9, 98), -2);
        Check.due("unknown ahead of full", x.answer(24, 9, 99), -1);
    }

    private static void ofLetter() {
        AnswerPost x = Posts.of("pw20m12l15");
        x.send(2, 1, 11, 5);
        x.send(0, 1, 2, 7);
        x.answer(0, 40, 6);
        x.answer(2, 99, 8);
        int[][] want = {
            {2, 1, 11, 5, 2, -9, 19},
            {0, 1, 2, 7, -9, -9, 2},
            {1, 2, 40, 6, 3, 0, 43},
            {2, 1, 99, 8, -9, 2, 151},
        };
        for (int k = 0; k < 4; k++) {
            for (int what = 0; what < 7; what++) {
                Check.due("ofLetter(" + k + ", " + what + ")", x.ofLetter(k, what), want[k][what]);
            }
            Check.due("what -1", x.ofLetter(k, -1), -2);
            Check.due("what 7", x.ofLetter(k, 7), -2);
        }
        Check.due("letter 4", x.ofLetter(4, 7), -1);
        Check.due("letter -1", x.ofLetter(-1, 0), -1);
    }

    private static void burn() {
        AnswerPost x = Posts.of("pw20m12l15");
        x.send(0, 1, 10, 5);
        x.answer(0, 6, 9);
        x.answer(1, 7, 9);
        x.send(0, 2, 10, 5);
        Check.due("burn(-1)", x.burn(-1), -2);
        Check.due("burn(5)", x.burn(5), -2);
        Check.due("burn(0)", x.burn(0), 4);
        Check.due("burn(1)", x.burn(1), 3);
        Check.due("letter 3 is gone", x.ofLetter(3, 0), -1);
        Check.due("burn(1)", x.burn(1), 2);
        Check.due("letter 1 is not answered any more", x.ofLetter(1, 4), -9);
        Check.due("letter 0 is", x.ofLetter(0, 4), 1);
        Check.due("nothing paid by letter 2", x.paid(0, 99), 0);
        Check.due("answered anew", x.answer(1, 3, 9), 2);
        Check.due("burn(3)", x.burn(3), 0);
        Check.due("letters begin anew", x.send(1, 2, 1, 1), 0);
        Check.due("it is not answered", x.ofLetter(0, 4), -9);
        Check.due("it is no answer", x.ofLetter(0, 5), -9);
    }

    private static void paid() {
        AnswerPost x = Posts.of("pw20m12l15");
        x.send(0, 1, 10, 5);
        x.answer(0, 6, 9);
        x.answer(1, 20, 30);
        // Of scales 10 and 9, then 9 and 20.
        int[][] want = {{0, 19, 0}, {19, 0, 0}, {10, 9, 0}};
        int[][] later = {{0, 48, 0}, {48, 0, 0}, {30, 18, 0}};
        for (int v = 0; v < 3; v++) {
            x.law(v);
            for (int p = 0; p < 3; p++) {
                Check.due("paid ahead of all", x.paid(p, 8), 0);
                Check.due("paid by the answer's day", x.paid(p, 9), want[v][p]);
                Check.due("paid ahead of the second", x.paid(p, 29), want[v][p]);
                Check.due("paid by its day", x.paid(p, 30), later[v][p]);
                Check.due("paid by the last day", x.paid(p, 99), later[v][p]);
            }
        }
        Check.due("person 3", x.paid(3, 100), -1);
        Check.due("person -1", x.paid(-1, 0), -1);
        Check.due("day -1", x.paid(0, -1), -2);
        Check.due("day 100", x.paid(0, 100), -2);
    }

    private static void paidAlike() {
        AnswerPost x = Posts.of("pw20m12");
        x.send(0, 1, 10, 5);
        x.answer(0, 7, 5);
        for (int v = 0; v < 3; v++) {
            x.law(v);
            Check.due("alike, by law " + v, x.paid(0, 5), 10);
            Check.due("alike, by law " + v, x.paid(1, 5), 10);
        }
    }

    private static void owes() {
        AnswerPost x = Posts.of("pw20m12l15");
        x.send(0, 1, 10, 5);
        x.send(2, 1, 11, 6);
        x.send(2, 1, 1, 7);
        x.answer(0, 6, 9);
        Check.due("ahead of its day", x.owes(1, 0, 4), 0);
        Check.due("on its day", x.owes(1, 0, 5), 0);
        Check.due("a day behind", x.owes(1, 0, 6), 10);
        Check.due("the day ahead of the answer", x.owes(1, 0, 8), 30);
        Check.due("the day of the answer", x.owes(1, 0, 9), 0);
        Check.due("the answer is a letter, too", x.owes(0, 1, 11), 18);
        Check.due("of several", x.owes(1, 2, 10), 4 * 19 + 3 * 4);
        Check.due("not the other way", x.owes(2, 1, 10), 0);
        Check.due("to itself", x.owes(1, 1, 10), 0);
        Check.due("the law doesn't matter", x.law(2), 0);
        Check.due("of several, by law 2", x.owes(1, 2, 10), 4 * 19 + 3 * 4);
        Check.due("person 3", x.owes(3, 0, 100), -1);
        Check.due("other 3", x.owes(0, 3, 0), -1);
        Check.due("other -1", x.owes(0, -1, 0), -1);
        Check.due("day 100", x.owes(0, 1, 100), -2);
        Check.due("day -1", x.owes(1, 1, -1), -2);
    }

    private static void net() {
        AnswerPost x = Posts.of("pw20m12l15");
        x.send(0, 1, 10, 5);
        x.send(1, 2, 4, 0);
        Check.due("net of 0", x.net(0, 10), 1000050);
        Check.due("net of 1", x.net(1, 10), 1000000 - 50 + 70);
        Check.due("net of 2", x.net(2, 10), 1000000 - 70);
        Check.due("net on day 0", x.net(2, 0), 1000000);
        for (int k = 2; k < 24; k++) {
            x.send(1, 2, 1, 90);
        }
        Check.due("net of 24 letters", x.net(2, 91), 1000000 - 91 * 7 - 22 * 4);
        Check.due("owes of 24 letters", x.owes(2, 1, 91), 91 * 7 + 22 * 4);
        Check.due("paid of 24 letters", x.paid(2, 91), 0);
        Check.due("settled of 24 letters", x.settled(91), 2);
        Check.due("person 3", x.net(3, 100), -1);
        Check.due("person -1", x.net(-1, 0), -1);
        Check.due("day 100", x.net(0, 100), -2);
        Check.due("day -1", x.net(0, -1), -2);
    }

    private static void settled() {
        AnswerPost x = Posts.of("pw20w20w20w20w20w20");
        Check.due("no letters", x.settled(99), 0);
        x.send(0, 1, 5, 0);
        x.send(2, 3, 7, 0);
        x.send(4, 5, 9, 0);
        Check.due("on that day", x.settled(0), 0);
        Check.due("three pairs", x.settled(1), 3);
        x.burn(3);
        x.send(0, 1, 5, 0);
        x.send(1, 2, 5, 0);
        Check.due("a chain needs one", x.settled(1), 1);
        x.send(2, 0, 5, 0);
        Check.due("a ring needs none", x.settled(1), 0);
        x.burn(3);
        x.send(0, 1, 5, 0);
        x.send(0, 2, 7, 0);
        Check.due("to one of two", x.settled(1), 2);
        x.burn(2);
        // Nets of 8, -3, -5 and 6, -2, -4, all of which could also make one group.
        x.send(0, 3, 3, 0);
        x.send(0, 4, 5, 0);
        x.send(1, 2, 2, 0);
        x.send(1, 5, 4, 0);
        Check.due("two groups of three", x.settled(1), 4);
        x.burn(4);
        // Nets of 1, 2, 3, -1, -2, -3, written so that the pairs can't be seen from the letters.
        x.send(0, 4, 1, 0);
        x.send(1, 5, 2, 0);
        x.send(2, 5, 1, 0);
        x.send(2, 3, 1, 0);
        x.send(2, 4, 1, 0);
        Check.due("three groups of two", x.settled(1), 3);
        x.burn(5);
        for (int p = 0; p < 5; p++) {
            x.send(p, 5, 1 << p, 0);
        }
        Check.due("one group of six", x.settled(1), 5);
        Check.due("day -1", x.settled(-1), -2);
        Check.due("day 100", x.settled(100), -2);
        x = new AnswerPost();
        Check.due("no post", x.settled(0), -3);
        Check.due("outside ahead of no post", x.settled(100), -2);
    }
}
