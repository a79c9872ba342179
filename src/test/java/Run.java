import java.util.ArrayList;
import java.util.List;

/**
 * Lines of calls on one object. Behind each of them fault() is held, too; and where the call was refused, came to a
 * fault or only asks, that nothing has changed: an object that was called is held against one that was not.
 */
final class Run {
    private static final int SIZE = 4;

    private final Caller x = new Caller();
    private final List<Line> changes = new ArrayList<>();

    /** A new object with a post by a text on sheet 0. */
    static Run of(String text) {
        return new Run().text(text, (text.length() - 1) / 3);
    }

    /** Writes a text's codes on sheet 0, and asks for a post by them. */
    Run text(String text, int due) {
        ready("sheet(0, 0, " + text.length() + ") = 1");
        for (int i = 0; i < text.length(); i++) {
            ready("put(0, " + i + ", " + (int) text.charAt(i) + ") = 1");
        }
        return due("post(0, 0, 0, " + text.length() + ") = " + due);
    }

    /** Gives a sheet a row of ints. */
    Run row(int sheet, int... cells) {
        ready("sheet(" + sheet + ", 2, " + cells.length + ") = 1");
        for (int i = 0; i < cells.length; i++) {
            ready("put(" + sheet + ", " + i + ", " + cells[i] + ") = 1");
        }
        return this;
    }

    /** A row is there, cell for cell, and ends there. */
    Run rowIs(int sheet, int lane, int... cells) {
        for (int i = 0; i < cells.length; i++) {
            due("cell(" + sheet + ", " + i + ", " + lane + ") = " + cells[i]);
        }
        return due("cell(" + sheet + ", " + cells.length + ", " + lane + ") = INDEX");
    }

    /** Letters of person 0 to 1 are written until there are so many. */
    Run fill(int letters) {
        for (long k = x.ask("many", 1); k < letters; k++) {
            ready("send(0, 1, 1, 0) = " + k);
        }
        return this;
    }

    Run due(String... lines) {
        for (String told : lines) {
            due(Line.of(told));
        }
        return this;
    }

    /** A call that the lines to come stand on. */
    private void ready(String told) {
        Line line = Line.of(told);
        Check.due(Sentences.now() + line, x.ask(line.name(), line.args()), line.answer());
        changes.add(line);
    }

    private void due(Line line) {
        String told = Sentences.now() + line;
        Check.due(told, x.ask(line.name(), line.args()), line.answer());
        Caller called = again();
        called.ask(line.name(), line.args());
        Check.due(told + ", then fault()", called.ask("fault"), line.faultBehind(SIZE));
        if (!line.leavesAll()) {
            changes.add(line);
            return;
        }
        String before = again().seen();
        String behind = called.seen();
        Check.holds(told + " has changed what was\n  " + before + "\nto\n  " + behind + "\nthat it has not",
            before.equals(behind));
    }

    /** Another object in the same state, whose latest call came to SIZE. */
    private Caller again() {
        Caller other = new Caller();
        for (Line line : changes) {
            other.ask(line.name(), line.args());
        }
        other.ask("sheet", 0, 0, -1);
        return other;
    }
}
