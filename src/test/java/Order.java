import java.util.ArrayList;
import java.util.LinkedHashMap;
import java.util.List;
import java.util.Map;
import java.util.function.Supplier;
import java.util.function.UnaryOperator;

/** A call with flaws in the order in which its line tells them: where two meet, the first one is answered. */
final class Order {
    /** A flaw is an argument's value, or a state. */
    private record Flaw(int place, String due, String argument, String value, UnaryOperator<Run> state) {
    }

    private final Supplier<Run> scene;
    private final String name;
    private final String answer;
    private final Map<String, String> fine = new LinkedHashMap<>();
    private final List<Flaw> flaws = new ArrayList<>();
    private int places;

    /** A call without a flaw, with its arguments' names: "paid(p=0, day=9) = 19". */
    Order(Supplier<Run> scene, String call) {
        this.scene = scene;
        name = call.substring(0, call.indexOf('('));
        answer = call.substring(call.indexOf(") = ") + 4);
        for (String one : call.substring(call.indexOf('(') + 1, call.indexOf(')')).split(", ")) {
            fine.put(one.substring(0, one.indexOf('=')), one.substring(one.indexOf('=') + 1));
        }
    }

    /** The next one of the line, and arguments by which the call comes to it. */
    Order told(String due, String... arguments) {
        for (String one : arguments) {
            int at = one.indexOf('=');
            if (!fine.containsKey(one.substring(0, at))) {
                throw new IllegalArgumentException("no argument " + one + " of " + name);
            }
            flaws.add(new Flaw(places, due, one.substring(0, at), one.substring(at + 1), run -> run));
        }
        places++;
        return this;
    }

    /** The next one of the line, and a state in which the call comes to it. */
    Order told(String due, UnaryOperator<Run> state) {
        flaws.add(new Flaw(places, due, "", "", state));
        places++;
        return this;
    }

    void hold() {
        ask(List.of(), answer);
        for (Flaw one : flaws) {
            ask(List.of(one), one.due);
            for (Flaw later : flaws) {
                if (later.place > one.place && !later.argument.equals(one.argument)) {
                    ask(List.of(one, later), one.due);
                }
            }
        }
    }

    private void ask(List<Flaw> some, String due) {
        Run run = scene.get();
        Map<String, String> arguments = new LinkedHashMap<>(fine);
        for (Flaw one : some) {
            run = one.state.apply(run);
            if (!one.argument.isEmpty()) {
                arguments.put(one.argument, one.value);
            }
        }
        run.due(name + "(" + String.join(", ", arguments.values()) + ") = " + due);
    }
}
