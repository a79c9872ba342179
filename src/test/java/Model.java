import java.util.ArrayList;
import java.util.Arrays;
import java.util.HashMap;
import java.util.List;
import java.util.Map;

/** The document once more, as slowly and as plainly as its words: what the class is held against. */
final class Model {
    /** A refusal or a fault, with what the call answers. */
    private static final class Refused extends RuntimeException {
        private static final long serialVersionUID = 1L;
        final long answer;

        Refused(long answer) {
            super(null, null, false, false);
            this.answer = answer;
        }
    }

    private record Person(char letter, int lift) {
        int kind() {
            return "wml".indexOf(letter);
        }

        int scale(int w) {
            return letter == 'w' ? w : letter == 'm' ? w + 3 : w + 3 + w / 2;
        }
    }

    private record Letter(int from, int to, int weight, int day, int answers) {
    }

    private record Sheet(int lane, int[] cells) {
    }

    private final Sheet[] sheets = new Sheet[4];
    private List<Person> persons = new ArrayList<>();
    private List<Letter> letters = new ArrayList<>();
    private int law;
    private int trace;
    private int fault;

    long call(String name, int[] a) {
        if (List.of("post", "split", "sheet", "put", "cell", "copy", "as").contains(name)) {
            fault = 0;
        }
        try {
            return answerOf(name, a);
        } catch (Refused r) {
            return name.equals("cell") ? Long.MIN_VALUE : r.answer;
        }
    }

    private long answerOf(String name, int[] a) {
        switch (name) {
            case "post": return post(a[0], a[1], a[2], a[3]);
            case "ofPerson": known(isPerson(a[0])); inside(a[1], 0, 1); return ofPerson(persons.get(a[0]), a[1]);
            case "scale": known(isPerson(a[0])); inside(a[1], 1, 99); return persons.get(a[0]).scale(a[1]);
            case "law": return law(a[0]);
            case "send": return send(a[0], a[1], a[2], a[3]);
            case "answer": return answer(a[0], a[1], a[2]);
            case "ofLetter": known(isLetter(a[0])); inside(a[1], 0, 6); return ofLetter(a[0], a[1]);
            case "burn": inside(a[0], 0, letters.size()); return burn(a[0]);
            case "paid": known(isPerson(a[0])); inside(a[1], 0, 99); return paid(letters, a[0], a[1], law);
            case "owes": known(isPerson(a[0]) && isPerson(a[1])); inside(a[2], 0, 99); return owes(a[0], a[1], a[2]);
            case "net": known(isPerson(a[0])); inside(a[1], 0, 99); return 1000000 + net(a[0], a[1]);
            case "settled": inside(a[0], 0, 99); state(!persons.isEmpty()); return settled(a[0]);
            case "best": return best(a[0], a[1], a[2]);
            case "course": return course(a[0], a[1], a[2], a[3], a[4]);
            case "cost": return cost(a[0], a[1], a[2], a[3], a[4]);
            case "split": return split(a[0], a[1], a[2], a[3], a[4], a[5], a[6]);
            case "least": return least(a[0], a[1], a[2]);
            case "weights": return weights(a[0], a[1], a[2], a[3], a[4]);
            case "sheet": return sheet(a[0], a[1], a[2]);
            case "lose": return lose(a[0]);
            case "put": return put(a[0], a[1], a[2]);
            case "cell": return cell(a[0], a[1], a[2]);
            case "copy": return copy(a[0], a[1], a[2], a[3], a[4]);
            case "tell": known(isPerson(a[0])); return tell(persons.get(a[0]));
            case "greet": known(isPerson(a[0])); return greet(a[0]);
            case "as": return as(a[0], a[1]);
            case "trace": return trace;
            case "fault": return fault;
            case "many": inside(a[0], 0, 2); return List.of(persons.size(), letters.size(), law).get(a[0]);
            default: throw new IllegalArgumentException(name);
        }
    }

    private static void known(boolean is) {
        if (!is) {
            throw new Refused(-1);
        }
    }

    private static void inside(long v, long low, long high) {
        if (v < low || v > high) {
            throw new Refused(-2);
        }
    }

    private static void state(boolean is) {
        if (!is) {
            throw new Refused(-3);
        }
    }

    private void machine(boolean is, int number) {
        if (!is) {
            fault = number;
            throw new Refused(-10 - number);
        }
    }

    private boolean isPerson(int p) {
        return p >= 0 && p < persons.size();
    }

    private boolean isLetter(int k) {
        return k >= 0 && k < letters.size();
    }

    private static boolean isSheet(int k) {
        return k >= 0 && k < 4;
    }

    /** The cells that a call names, behind its faults in the order told. */
    private int[] cells(int sheet, int lane, int i, int n) {
        Sheet s = sheets[sheet];
        machine(s == null || s.lane == lane, 2);
        machine(s != null, 1);
        machine(n >= 0, 4);
        machine(i >= 0 && (long) i + n <= s.cells.length, 3);
        return Arrays.copyOfRange(s.cells, i, i + n);
    }

    private long post(int sheet, int lane, int i, int n) {
        known(isSheet(sheet));
        inside(lane, 0, 2);
        StringBuilder text = new StringBuilder();
        for (int code : cells(sheet, lane, i, n)) {
            text.append(code >= 0 && code < 128 ? (char) code : '?');
        }
        String person = "[wml](0[1-9]|[123][0-9]|40)";
        if (!text.toString().matches("p(" + person + "){2,6}")) {
            return -100 - firstFault(text.toString());
        }
        persons = new ArrayList<>();
        for (int at = 1; at < text.length(); at += 3) {
            persons.add(new Person(text.charAt(at), Integer.parseInt(text.substring(at + 1, at + 3))));
        }
        letters = new ArrayList<>();
        law = 0;
        return persons.size();
    }

    /** The first place behind which nothing makes a text of what is there. */
    private static int firstFault(String text) {
        for (int end = 1; end <= text.length(); end++) {
            if (!isBeginning(text.substring(0, end))) {
                return end - 1;
            }
        }
        return text.length();
    }

    private static boolean isBeginning(String text) {
        String whole = "p(?:[wml](?:0[1-9]|[123][0-9]|40)){0,5}";
        return text.matches(whole + "|" + whole + "[wml]|" + whole + "[wml][0-4]|" + whole + "[wml](?:0[1-9]|[123][0-9]|40)");
    }

    private static long ofPerson(Person one, int what) {
        return what == 0 ? one.kind() : one.lift;
    }

    private long law(int v) {
        inside(v, 0, 2);
        state(!persons.isEmpty());
        int was = law;
        law = v;
        return was;
    }

    private long send(int from, int to, int weight, int day) {
        known(isPerson(from) && isPerson(to) && from != to);
        inside(weight, 1, 99);
        inside(day, 0, 99);
        return add(new Letter(from, to, weight, day, -9));
    }

    private long answer(int k, int weight, int day) {
        known(isLetter(k));
        inside(weight, 1, 99);
        Letter l = letters.get(k);
        inside(day, l.day, 99);
        state(answerOf(letters, k) < 0);
        return add(new Letter(l.to, l.from, weight, day, k));
    }

    private long add(Letter l) {
        if (letters.size() == 24) {
            throw new Refused(-4);
        }
        letters.add(l);
        return letters.size() - 1;
    }

    private static int answerOf(List<Letter> all, int k) {
        for (int j = 0; j < all.size(); j++) {
            if (all.get(j).answers == k) {
                return j;
            }
        }
        return -9;
    }

    private long ofLetter(int k, int what) {
        Letter l = letters.get(k);
        int shown = persons.get(l.from).scale(l.weight);
        return new int[] {l.from, l.to, l.weight, l.day, answerOf(letters, k), l.answers, shown}[what];
    }

    private long burn(int k) {
        letters = new ArrayList<>(letters.subList(0, letters.size() - k));
        return letters.size();
    }

    /** What both writers of a pair pay. */
    private static int[] pair(int law, int s, int a) {
        if (law == 2 || s == a) {
            return new int[] {s, a};
        }
        boolean firstPays = law == 0 ? s < a : s > a;
        return firstPays ? new int[] {s + a, 0} : new int[] {0, s + a};
    }

    private long paid(List<Letter> all, int p, int day, int byLaw) {
        long sum = 0;
        for (Letter back : all) {
            if (back.answers >= 0 && back.day <= day) {
                Letter l = all.get(back.answers);
                int[] both = pair(byLaw, persons.get(l.from).scale(l.weight), persons.get(back.from).scale(back.weight));
                sum += l.from == p ? both[0] : 0;
                sum += back.from == p ? both[1] : 0;
            }
        }
        return sum;
    }

    private long owes(int p, int other, int day) {
        long sum = 0;
        for (int k = 0; k < letters.size(); k++) {
            Letter l = letters.get(k);
            int back = answerOf(letters, k);
            boolean isOpen = l.day <= day && (back < 0 || letters.get(back).day > day);
            if (isOpen && l.to == p && l.from == other) {
                for (int d = l.day; d < day; d++) {
                    sum += persons.get(l.from).scale(l.weight);
                }
            }
        }
        return sum;
    }

    private long net(int p, int day) {
        long sum = 0;
        for (int other = 0; other < persons.size(); other++) {
            sum += owes(other, p, day) - owes(p, other, day);
        }
        return sum;
    }

    private long settled(int day) {
        List<Long> nets = new ArrayList<>();
        for (int p = 0; p < persons.size(); p++) {
            if (net(p, day) != 0) {
                nets.add(net(p, day));
            }
        }
        return nets.size() - mostGroups(nets, 0, new ArrayList<>());
    }

    /** Puts each into every group that there is, and into one of its own. */
    private static int mostGroups(List<Long> nets, int at, List<Long> sums) {
        if (at == nets.size()) {
            return sums.stream().allMatch(s -> s == 0) ? sums.size() : -1;
        }
        int most = -1;
        for (int g = 0; g <= sums.size(); g++) {
            List<Long> next = new ArrayList<>(sums);
            if (g == sums.size()) {
                next.add(0L);
            }
            next.set(g, next.get(g) + nets.get(at));
            most = Math.max(most, mostGroups(nets, at + 1, next));
        }
        return most;
    }

    private long best(int p, int scale, int what) {
        known(isPerson(p));
        inside(scale, 1, 200);
        inside(what, 0, 1);
        int least = Integer.MAX_VALUE;
        for (int w = 1; w <= persons.get(p).lift; w++) {
            least = Math.min(least, pair(law, scale, persons.get(p).scale(w))[1]);
        }
        for (int w = 1; w <= persons.get(p).lift; w++) {
            if (pair(law, scale, persons.get(p).scale(w))[1] == least) {
                return what == 0 ? w : least;
            }
        }
        throw new IllegalStateException();
    }

    /** What is written from a letter on, and what it costs both. */
    private record Play(int[] costs, List<Integer> row) {
    }

    private final class Game {
        final Person[] both;
        final int n;
        final int fine;
        final Map<Integer, Play> known = new HashMap<>();

        Game(int first, int other, int n, int fine) {
            both = new Person[] {persons.get(first), persons.get(other)};
            this.n = n;
            this.fine = fine;
        }

        Play from(int k, int before) {
            if (k == n) {
                return new Play(new int[2], List.of());
            }
            Play play = known.get(k * 100 + before);
            if (play == null) {
                play = choose(k, before);
                known.put(k * 100 + before, play);
            }
            return play;
        }

        private Play choose(int k, int before) {
            int me = k % 2;
            Play choice = null;
            if (k > 0) {
                int[] costs = new int[2];
                costs[me] = fine;
                choice = new Play(costs, List.of());
            }
            for (int w = 1; w <= both[me].lift; w++) {
                Play then = from(k + 1, w);
                int[] costs = then.costs.clone();
                if (k > 0) {
                    int[] pays = pair(law, both[1 - me].scale(before), both[me].scale(w));
                    costs[1 - me] += pays[0];
                    costs[me] += pays[1];
                }
                if (choice == null || costs[me] < choice.costs[me]) {
                    List<Integer> row = new ArrayList<>(List.of(w));
                    row.addAll(then.row);
                    choice = new Play(costs, row);
                }
            }
            return choice;
        }
    }

    private long course(int first, int other, int n, int fine, int q) {
        known(isPerson(first) && isPerson(other) && first != other && q >= -1);
        inside(n, 1, 8);
        inside(fine, 0, 999);
        List<Integer> row = new Game(first, other, n, fine).from(0, 0).row;
        return q == -1 ? row.size() : q < row.size() ? row.get(q) : -9;
    }

    private long cost(int first, int other, int n, int fine, int what) {
        known(isPerson(first) && isPerson(other) && first != other);
        inside(n, 1, 8);
        inside(fine, 0, 999);
        inside(what, 0, 1);
        return new Game(first, other, n, fine).from(0, 0).costs[what];
    }

    private long split(int p, int weight, int sheet, int lane, int i, int n, int q) {
        known(isPerson(p) && isSheet(sheet));
        inside(lane, 0, 2);
        inside(weight, 1, 99);
        int[] scales = cells(sheet, lane, i, n);
        inside(n, 1, Math.min(6, weight));
        for (int scale : scales) {
            inside(scale, 1, 200);
        }
        known(q >= -1 && q < n);
        List<Integer> row = parts(persons.get(p), weight, scales, 0, new HashMap<>());
        return row.get(q + 1);
    }

    /** The sum, then the parts: of all rows that begin with each part, the cheapest and the first. */
    private List<Integer> parts(Person one, int left, int[] scales, int at, Map<Integer, List<Integer>> known) {
        if (at == scales.length) {
            return left == 0 ? List.of(0) : null;
        }
        int key = at * 1000 + left;
        if (known.containsKey(key)) {
            return known.get(key);
        }
        List<Integer> choice = null;
        for (int w = left; w >= 1; w--) {
            List<Integer> then = parts(one, left - w, scales, at + 1, known);
            if (then == null) {
                continue;
            }
            int sum = then.get(0) + pair(law, one.scale(w), scales[at])[0];
            if (choice == null || sum <= choice.get(0)) {
                choice = new ArrayList<>(List.of(sum, w));
                choice.addAll(then.subList(1, then.size()));
            }
        }
        known.put(key, choice);
        return choice;
    }

    private long least(int p, int day, int what) {
        known(isPerson(p));
        inside(day, 0, 99);
        inside(what, 0, 1);
        long[] sums = {paid(letters, p, day, 0), paid(letters, p, day, 1), paid(letters, p, day, 2)};
        long least = Math.min(sums[0], Math.min(sums[1], sums[2]));
        return what == 1 ? least : sums[0] == least ? 0 : sums[1] == least ? 1 : 2;
    }

    private long weights(int k, int p, int day, int v, int q) {
        known(isLetter(k) && isPerson(p) && q >= -1);
        inside(day, 0, 99);
        state(answerOf(letters, k) >= 0);
        List<Integer> found = new ArrayList<>();
        for (int w = 1; w <= 99; w++) {
            Letter l = letters.get(k);
            List<Letter> all = new ArrayList<>(letters);
            all.set(k, new Letter(l.from, l.to, w, l.day, l.answers));
            if (paid(all, p, day, law) == v) {
                found.add(w);
            }
        }
        return q == -1 ? found.size() : q < found.size() ? found.get(q) : -9;
    }

    private long sheet(int k, int lane, int n) {
        known(isSheet(k));
        inside(lane, 0, 2);
        inside(n, Integer.MIN_VALUE, 40);
        machine(n >= 0, 4);
        sheets[k] = new Sheet(lane, new int[n]);
        return 1;
    }

    private long lose(int k) {
        known(isSheet(k));
        int had = sheets[k] == null ? 0 : 1;
        sheets[k] = null;
        return had;
    }

    private long put(int k, int i, int v) {
        known(isSheet(k));
        machine(sheets[k] != null, 1);
        machine(i >= 0 && i < sheets[k].cells.length, 3);
        sheets[k].cells[i] = sheets[k].lane == 0 ? (byte) v : sheets[k].lane == 1 ? (short) v : v;
        return 1;
    }

    private long cell(int k, int i, int lane) {
        known(isSheet(k));
        inside(lane, 0, 2);
        return cells(k, lane, i, 1)[0];
    }

    private long copy(int k, int i, int other, int j, int n) {
        known(isSheet(k) && isSheet(other));
        machine(sheets[k] != null && sheets[other] != null, 1);
        machine(sheets[k].lane == sheets[other].lane, 2);
        machine(i >= 0 && j >= 0 && n >= 0, 3);
        machine((long) i + n <= sheets[k].cells.length && (long) j + n <= sheets[other].cells.length, 3);
        int[] taken = Arrays.copyOfRange(sheets[k].cells, i, i + n);
        for (int c = 0; c < n; c++) {
            sheets[other].cells[j + c] = taken[c];
        }
        return n;
    }

    private long tell(Person one) {
        int[][] left = {{1}, {2, 1}, {3, 2, 1, 1}};
        for (int number : left[one.kind()]) {
            trace = trace * 31 + number;
        }
        return new int[] {one.lift, one.lift + 100, 2 * one.lift + 100}[one.kind()];
    }

    private long greet(int p) {
        boolean hasOwn = persons.get(p).letter == 'l';
        trace = trace * 31 + (hasOwn ? 5 : 4);
        return hasOwn ? 90 : p;
    }

    private long as(int p, int kind) {
        known(isPerson(p));
        inside(kind, 0, 2);
        machine(persons.get(p).kind() >= kind, 2);
        return 1;
    }
}
