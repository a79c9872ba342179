/** Objects in the state that a test begins with. */
final class Posts {
    private Posts() {
    }

    /** Writes codes on sheet 0 as bytes, and asks for a post by them. */
    static int post(AnswerPost x, String text) {
        x.sheet(0, 0, text.length());
        for (int i = 0; i < text.length(); i++) {
            x.put(0, i, text.charAt(i));
        }
        return x.post(0, 0, 0, text.length());
    }

    static AnswerPost of(String text) {
        AnswerPost x = new AnswerPost();
        Check.due("post " + text, post(x, text), (text.length() - 1) / 3);
        return x;
    }

    /** Gives a sheet a row of ints. */
    static void row(AnswerPost x, int sheet, int... cells) {
        x.sheet(sheet, 2, cells.length);
        for (int i = 0; i < cells.length; i++) {
            x.put(sheet, i, cells[i]);
        }
    }
}
