/** Promises 20 to 29: sheets, tellings, greetings, kinds, the trace and the fault. */
public final class SheetsTest {
    public static void main(String[] args) {
        sheet();
        lose();
        put();
        cell();
        copy();
        copyRefusals();
        tell();
        greet();
        as();
        fault();
        Check.end();
    }

    private static void sheet() {
        AnswerPost x = new AnswerPost();
        Check.due("sheet -1", x.sheet(-1, 0, 1), -1);
        Check.due("sheet 4", x.sheet(4, 3, 1), -1);
        Check.due("lane -1", x.sheet(0, -1, -1), -2);
        Check.due("lane 3", x.sheet(0, 3, 1), -2);
        Check.due("n 41", x.sheet(0, 0, 41), -2);
        Check.due("n -1", x.sheet(0, 0, -1), -14);
        Check.due("fault size", x.fault(), 4);
        Check.due("it has nothing", x.lose(0), 0);
        Check.due("n 40", x.sheet(3, 1, 40), 1);
        Check.due("fault none", x.fault(), 0);
        Check.due("0 at first", x.cell(3, 39, 1), 0);
        x.put(3, 39, 5);
        x.put(3, 0, 5);
        Check.due("a new row", x.sheet(3, 1, 40), 1);
        Check.due("0 anew", x.cell(3, 39, 1), 0);
        Check.due("0 anew", x.cell(3, 0, 1), 0);
        Check.due("n 0", x.sheet(2, 2, 0), 1);
        Check.due("no cells", x.put(2, 0, 1), -13);
        Check.due("a shorter row", x.sheet(3, 2, 1), 1);
        Check.due("no cell 1", x.put(3, 1, 1), -13);
        Check.due("a refused one", x.sheet(3, 0, 41), -2);
        Check.due("changes nothing", x.cell(3, 0, 2), 0);
    }

    private static void lose() {
        AnswerPost x = new AnswerPost();
        x.sheet(1, 0, 0);
        Check.due("lose(1)", x.lose(1), 1);
        Check.due("lose(1) again", x.lose(1), 0);
        Check.due("nothing there", x.put(1, 0, 0), -11);
        Check.due("lose(-1)", x.lose(-1), -1);
        Check.due("lose(4)", x.lose(4), -1);
        Check.due("lose names no faults", x.fault(), 1);
    }

    private static void put() {
        AnswerPost x = new AnswerPost();
        int[] puts = {0, 127, 128, 255, 256, -129, 32767, 32768, 65535, -32769, Integer.MIN_VALUE, 123456789};
        for (int lane = 0; lane < 3; lane++) {
            x.sheet(0, lane, 2);
            for (int v : puts) {
                Check.due("put " + v, x.put(0, 1, v), 1);
                Check.due(v + " in lane " + lane, x.cell(0, 1, lane), cut(lane, v));
            }
            Check.due("cell 0 stays", x.cell(0, 0, lane), 0);
        }
        Check.due("sheet 4", x.put(4, -1, 0), -1);
        Check.due("sheet -1", x.put(-1, 0, 0), -1);
        Check.due("nothing", x.put(1, -1, 0), -11);
        Check.due("cell -1", x.put(0, -1, 0), -13);
        Check.due("fault index", x.fault(), 3);
        Check.due("cell 2", x.put(0, 2, 0), -13);
        Check.due("cell MAX", x.put(0, Integer.MAX_VALUE, 0), -13);
        Check.due("cell MIN", x.put(0, Integer.MIN_VALUE, 0), -13);
    }

    private static int cut(int lane, int v) {
        int bits = lane == 0 ? 24 : lane == 1 ? 16 : 0;
        return v << bits >> bits;
    }

    private static void cell() {
        AnswerPost x = new AnswerPost();
        x.sheet(0, 1, 3);
        x.put(0, 2, -7);
        Check.due("cell 2", x.cell(0, 2, 1), -7);
        long lost = Long.MIN_VALUE;
        Check.due("nothing is no cast", x.cell(1, -1, 0), lost);
        Check.due("fault null", x.fault(), 1);
        Check.due("another lane", x.cell(0, 3, 2), lost);
        Check.due("fault cast", x.fault(), 2);
        Check.due("cell 3", x.cell(0, 3, 1), lost);
        Check.due("fault index", x.fault(), 3);
        Check.due("cell -1", x.cell(0, -1, 1), lost);
        Check.due("fault index", x.fault(), 3);
        Check.due("lane 3", x.cell(0, 3, 3), lost);
        Check.due("fault of a refused one", x.fault(), 0);
        x.cell(0, 3, 1);
        Check.due("sheet 4", x.cell(4, 0, 0), lost);
        Check.due("fault of an unknown one", x.fault(), 0);
        x.cell(0, 3, 1);
        Check.due("sheet -1", x.cell(-1, 0, 0), lost);
        Check.due("fault of an unknown one", x.fault(), 0);
        x.cell(0, 3, 1);
        Check.due("a taken one", x.cell(0, 0, 1), 0);
        Check.due("fault of a taken one", x.fault(), 0);
    }

    private static void copy() {
        AnswerPost x = new AnswerPost();
        Posts.row(x, 0, 1, 2, 3, 4, 5);
        Posts.row(x, 1, 10, 20, 30);
        Check.due("to another one", x.copy(0, 1, 1, 0, 2), 2);
        row(x, 1, 2, 3, 30);
        row(x, 0, 1, 2, 3, 4, 5);
        Check.due("upwards on itself", x.copy(0, 0, 0, 1, 4), 4);
        row(x, 0, 1, 1, 2, 3, 4);
        Check.due("downwards on itself", x.copy(0, 2, 0, 0, 3), 3);
        row(x, 0, 2, 3, 4, 3, 4);
        Check.due("no cells at the end", x.copy(0, 5, 1, 3, 0), 0);
        row(x, 1, 2, 3, 30);
        for (int lane = 0; lane < 2; lane++) {
            x.sheet(2, lane, 2);
            x.put(2, 0, -3);
            x.sheet(3, lane, 2);
            Check.due("in lane " + lane, x.copy(2, 0, 3, 1, 1), 1);
            Check.due("with its sign", x.cell(3, 1, lane), -3);
        }
    }

    private static void row(AnswerPost x, int sheet, int... want) {
        for (int i = 0; i < want.length; i++) {
            Check.due("cell " + i, x.cell(sheet, i, 2), want[i]);
        }
    }

    private static void copyRefusals() {
        AnswerPost x = new AnswerPost();
        Posts.row(x, 0, 1, 2, 3);
        x.sheet(1, 0, 3);
        Posts.row(x, 2, 7, 8);
        Check.due("sheet -1", x.copy(-1, 0, 0, 0, 1), -1);
        Check.due("sheet 4", x.copy(0, 0, 4, 0, 1), -1);
        Check.due("the first has nothing", x.copy(3, -1, 0, 0, 1), -11);
        Check.due("the other has nothing", x.copy(0, -1, 3, 0, 1), -11);
        Check.due("fault null", x.fault(), 1);
        Check.due("unlike lanes", x.copy(0, -1, 1, 0, 1), -12);
        Check.due("fault cast", x.fault(), 2);
        int[][] beyond = {
            {-1, 0, 1}, {0, -1, 1}, {0, 0, -1}, {0, 0, 3}, {2, 0, 2}, {0, 1, 2}, {4, 0, 0}, {0, 3, 0},
            {-1, 0, 0}, {0, -1, 0}, {1, 1, Integer.MAX_VALUE}, {Integer.MAX_VALUE, 0, 1}, {0, Integer.MAX_VALUE, 1}
        };
        for (int[] b : beyond) {
            Check.due("beyond: " + b[0] + ", " + b[1] + ", " + b[2], x.copy(0, b[0], 2, b[1], b[2]), -13);
            Check.due("fault index", x.fault(), 3);
        }
        row(x, 2, 7, 8);
        Check.due("all of it", x.copy(0, 1, 2, 0, 2), 2);
        Check.due("fault none", x.fault(), 0);
        row(x, 2, 2, 3);
    }

    private static void tell() {
        AnswerPost x = Posts.of("pw20m12l15");
        Check.due("a writer", x.tell(0), 20);
        Check.due("its trace", x.trace(), 1);
        Check.due("a miser", x.tell(1), 112);
        Check.due("its trace", x.trace(), trace(1, 2, 1));
        Check.due("a lawyer", x.tell(2), 130);
        int all = trace(1, 2, 1, 3, 2, 1, 1);
        Check.due("its trace", x.trace(), all);
        Check.due("person 3", x.tell(3), -1);
        Check.due("person -1", x.tell(-1), -1);
        Check.due("the trace stays", x.trace(), all);
        Check.due("tell names no faults", x.fault(), 0);
    }

    private static int trace(int... numbers) {
        long sum = 0;
        for (int number : numbers) {
            sum = sum * 31 + number;
        }
        return (int) sum;
    }

    private static void greet() {
        AnswerPost x = Posts.of("pw20m12l15w01l02");
        int[] want = {0, 1, 90, 3, 90};
        for (int p = 0; p < 5; p++) {
            Check.due("greet(" + p + ")", x.greet(p), want[p]);
        }
        Check.due("the trace", x.trace(), trace(4, 4, 5, 4, 5));
        Check.due("person 5", x.greet(5), -1);
        Check.due("person -1", x.greet(-1), -1);
        Check.due("the trace stays", x.trace(), trace(4, 4, 5, 4, 5));
        for (int k = 0; k < 9; k++) {
            x.greet(0);
        }
        Check.due("the trace wraps", x.trace(), trace(4, 4, 5, 4, 5, 4, 4, 4, 4, 4, 4, 4, 4, 4));
    }

    private static void as() {
        AnswerPost x = Posts.of("pw20m12l15");
        for (int p = 0; p < 3; p++) {
            for (int kind = 0; kind < 3; kind++) {
                boolean is = kind <= p;
                Check.due("as(" + p + ", " + kind + ")", x.as(p, kind), is ? 1 : -12);
                Check.due("its fault", x.fault(), is ? 0 : 2);
            }
        }
        x.as(0, 2);
        Check.due("kind 3", x.as(0, 3), -2);
        Check.due("fault of a refused one", x.fault(), 0);
        Check.due("kind -1", x.as(0, -1), -2);
        x.as(0, 2);
        Check.due("person 3", x.as(3, 3), -1);
        Check.due("fault of an unknown one", x.fault(), 0);
        Check.due("person -1", x.as(-1, 0), -1);
    }

    private static void fault() {
        AnswerPost x = Posts.of("pw20m12");
        x.as(0, 2);
        x.tell(0);
        x.greet(9);
        x.law(7);
        x.send(0, 0, 0, 0);
        x.paid(0, 0);
        x.lose(3);
        x.many(9);
        Check.due("calls that name none leave it", x.fault(), 2);
        Check.due("asking leaves it", x.fault(), 2);
        x.put(0, 0, 1);
        Check.due("a call that comes to none", x.fault(), 0);
        x.sheet(0, 0, -1);
        x.sheet(9, 0, -1);
        Check.due("sheet refused", x.fault(), 0);
        x.put(3, 0, 0);
        x.put(9, 0, 0);
        Check.due("put refused", x.fault(), 0);
        x.put(3, 0, 0);
        x.copy(9, 0, 0, 0, 0);
        Check.due("copy refused", x.fault(), 0);
        x.put(3, 0, 0);
        x.split(9, 0, 0, 0, 0, 0, 0);
        Check.due("split refused", x.fault(), 0);
        x.put(3, 0, 0);
        x.post(9, 0, 0, 0);
        Check.due("post refused", x.fault(), 0);
    }
}
