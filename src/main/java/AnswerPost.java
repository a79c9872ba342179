/** A post that weighs each letter against its answer, and by its law makes one of both writers pay. */
public final class AnswerPost {
    public static final int UNKNOWN = -1, OUTSIDE = -2, STATE = -3, FULL = -4, NONE = -9;
    public static final long LOST = Long.MIN_VALUE;

    private static final int NULL = 1, CAST = 2, INDEX = 3, SIZE = 4;
    private static final int WRITER = 0, MISER = 1, LAWYER = 2;
    private static final int LIGHTER_PAYS = 0, EACH_ITS_OWN = 2;
    private static final int LAWS = 3, KINDS = 3;
    private static final int FEWEST_PERSONS = 2, MOST_PERSONS = 6, MOST_LIFT = 40;
    private static final int MOST_LETTERS = 24, HEAVIEST = 99, LAST_DAY = 99;
    private static final int MOST_SCALE = 200, MOST_TURNS = 8, MOST_FINE = 999, MOST_PARTS = 6;
    private static final int SHEETS = 4, LANES = 3, MOST_CELLS = 40, NOTHING = -1;
    private static final int NET_SHIFT = 1000000;

    private final Row[] sheets;
    private final Writer[] persons;
    private final Letters letters;
    private final Settling settling;
    private final Turns turns;
    private final Parts parts;
    private final Trail trail;
    private int personCount;
    private int lawNow;
    private int lastFault;

    public AnswerPost() {
        sheets = new Row[SHEETS];
        for (int k = 0; k < SHEETS; k++) {
            sheets[k] = new Row();
        }
        persons = new Writer[MOST_PERSONS];
        letters = new Letters();
        settling = new Settling();
        turns = new Turns();
        parts = new Parts();
        trail = new Trail();
    }

    // ---- 1 the post

    public int post(int sheet, int lane, int i, int n) {
        lastFault = 0;
        Row row = sheetAt(sheet);
        if (row == null) {
            return UNKNOWN;
        }
        if (!isWithin(lane, 0, LANES - 1)) {
            return OUTSIDE;
        }
        int found = row.faultOfCells(lane, i, n);
        if (found != 0) {
            return faulted(found);
        }
        int firstFault = Text.firstFault(row.cells, i, n);
        if (firstFault != NONE) {
            return -100 - firstFault;
        }
        settle(row.cells, i, n);
        return personCount;
    }

    public int ofPerson(int p, int what) {
        Writer person = personAt(p);
        if (person == null) {
            return UNKNOWN;
        }
        if (!isWithin(what, 0, 1)) {
            return OUTSIDE;
        }
        return what == 0 ? person.kind() : person.lift;
    }

    public int scale(int p, int weight) {
        Writer person = personAt(p);
        if (person == null) {
            return UNKNOWN;
        }
        if (!isWithin(weight, 1, HEAVIEST)) {
            return OUTSIDE;
        }
        return person.shows(weight);
    }

    public int law(int v) {
        if (!isWithin(v, 0, LAWS - 1)) {
            return OUTSIDE;
        }
        if (personCount == 0) {
            return STATE;
        }
        int before = lawNow;
        lawNow = v;
        return before;
    }

    // ---- 2 letters

    public int send(int from, int to, int weight, int day) {
        Writer sender = personAt(from);
        if (sender == null || personAt(to) == null || from == to) {
            return UNKNOWN;
        }
        if (!isWithin(weight, 1, HEAVIEST) || !isDay(day)) {
            return OUTSIDE;
        }
        if (letters.isFull()) {
            return FULL;
        }
        return letters.write(sender, to, weight, day);
    }

    public int answer(int letter, int weight, int day) {
        if (!letters.has(letter)) {
            return UNKNOWN;
        }
        if (!isWithin(weight, 1, HEAVIEST) || !isDay(day) || day < letters.day[letter]) {
            return OUTSIDE;
        }
        if (letters.isAnswered(letter)) {
            return STATE;
        }
        if (letters.isFull()) {
            return FULL;
        }
        Writer answerer = personAt(letters.to[letter]);
        if (answerer == null) {
            return UNKNOWN;
        }
        int number = letters.write(answerer, letters.from[letter], weight, day);
        letters.pair(letter, number);
        return number;
    }

    public int ofLetter(int letter, int what) {
        if (!letters.has(letter)) {
            return UNKNOWN;
        }
        switch (what) {
            case 0: return letters.from[letter];
            case 1: return letters.to[letter];
            case 2: return letters.weight[letter];
            case 3: return letters.day[letter];
            case 4: return letters.answer[letter];
            case 5: return letters.answered[letter];
            case 6: return letters.shown[letter];
            default: return OUTSIDE;
        }
    }

    public int burn(int k) {
        if (!isWithin(k, 0, letters.count)) {
            return OUTSIDE;
        }
        letters.burnLast(k);
        return letters.count;
    }

    public int paid(int p, int day) {
        if (personAt(p) == null) {
            return UNKNOWN;
        }
        if (!isDay(day)) {
            return OUTSIDE;
        }
        return letters.paidBy(p, day, lawNow);
    }

    public int owes(int p, int other, int day) {
        if (personAt(p) == null || personAt(other) == null) {
            return UNKNOWN;
        }
        if (!isDay(day)) {
            return OUTSIDE;
        }
        return letters.owed(p, other, day);
    }

    public int net(int p, int day) {
        if (personAt(p) == null) {
            return UNKNOWN;
        }
        if (!isDay(day)) {
            return OUTSIDE;
        }
        return letters.netOf(p, day) + NET_SHIFT;
    }

    public int settled(int day) {
        if (!isDay(day)) {
            return OUTSIDE;
        }
        if (personCount == 0) {
            return STATE;
        }
        settling.clear();
        for (int p = 0; p < personCount; p++) {
            settling.take(letters.netOf(p, day));
        }
        return settling.fewestPayments();
    }

    // ---- 3 answers, back and forth, parts

    public int best(int p, int scale, int what) {
        Writer person = personAt(p);
        if (person == null) {
            return UNKNOWN;
        }
        if (!isWithin(scale, 1, MOST_SCALE) || !isWithin(what, 0, 1)) {
            return OUTSIDE;
        }
        int weight = 1;
        int least = pays(lawNow, person.shows(1), scale);
        for (int w = 2; w <= person.lift; w++) {
            int sum = pays(lawNow, person.shows(w), scale);
            if (sum < least) {
                least = sum;
                weight = w;
            }
        }
        return what == 0 ? weight : least;
    }

    public int course(int first, int other, int n, int fine, int q) {
        Writer one = personAt(first);
        Writer two = personAt(other);
        if (one == null || two == null || first == other || q < -1) {
            return UNKNOWN;
        }
        if (!isWithin(n, 1, MOST_TURNS) || !isWithin(fine, 0, MOST_FINE)) {
            return OUTSIDE;
        }
        turns.play(one, two, n, fine, lawNow);
        if (q == -1) {
            return turns.written;
        }
        return q < turns.written ? turns.weights[q] : NONE;
    }

    public int cost(int first, int other, int n, int fine, int what) {
        Writer one = personAt(first);
        Writer two = personAt(other);
        if (one == null || two == null || first == other) {
            return UNKNOWN;
        }
        if (!isWithin(n, 1, MOST_TURNS) || !isWithin(fine, 0, MOST_FINE) || !isWithin(what, 0, 1)) {
            return OUTSIDE;
        }
        turns.play(one, two, n, fine, lawNow);
        return what == 0 ? turns.costOfFirst : turns.costOfOther;
    }

    public int split(int p, int weight, int sheet, int lane, int i, int n, int q) {
        lastFault = 0;
        Writer person = personAt(p);
        Row row = sheetAt(sheet);
        if (person == null || row == null) {
            return UNKNOWN;
        }
        if (!isWithin(lane, 0, LANES - 1) || !isWithin(weight, 1, HEAVIEST)) {
            return OUTSIDE;
        }
        int found = row.faultOfCells(lane, i, n);
        if (found != 0) {
            return faulted(found);
        }
        if (!isWithin(n, 1, MOST_PARTS) || n > weight || !row.allWithin(i, n, 1, MOST_SCALE)) {
            return OUTSIDE;
        }
        if (!isWithin(q, -1, n - 1)) {
            return UNKNOWN;
        }
        parts.part(person, weight, row.cells, i, n, lawNow);
        return q == -1 ? parts.sum : parts.weights[q];
    }

    // ---- 4 laws, weights

    public int least(int p, int day, int what) {
        if (personAt(p) == null) {
            return UNKNOWN;
        }
        if (!isDay(day) || !isWithin(what, 0, 1)) {
            return OUTSIDE;
        }
        int law = 0;
        int least = letters.paidBy(p, day, 0);
        for (int v = 1; v < LAWS; v++) {
            int sum = letters.paidBy(p, day, v);
            if (sum < least) {
                least = sum;
                law = v;
            }
        }
        return what == 0 ? law : least;
    }

    public int weights(int letter, int p, int day, int v, int k) {
        if (!letters.has(letter) || personAt(p) == null || k < -1) {
            return UNKNOWN;
        }
        if (!isDay(day)) {
            return OUTSIDE;
        }
        Writer writer = personAt(letters.from[letter]);
        if (!letters.isAnswered(letter) || writer == null) {
            return STATE;
        }
        int found = 0;
        for (int w = 1; w <= HEAVIEST; w++) {
            if (letters.paidIf(p, day, lawNow, letter, writer.shows(w)) == v) {
                if (found == k) {
                    return w;
                }
                found++;
            }
        }
        return k == -1 ? found : NONE;
    }

    // ---- 5 sheets, parts

    public int sheet(int k, int lane, int n) {
        lastFault = 0;
        Row row = sheetAt(k);
        if (row == null) {
            return UNKNOWN;
        }
        if (!isWithin(lane, 0, LANES - 1) || n > MOST_CELLS) {
            return OUTSIDE;
        }
        if (n < 0) {
            return faulted(SIZE);
        }
        row.begin(lane, n);
        return 1;
    }

    public int lose(int k) {
        Row row = sheetAt(k);
        if (row == null) {
            return UNKNOWN;
        }
        int had = row.isNothing() ? 0 : 1;
        row.lane = NOTHING;
        return had;
    }

    public int put(int k, int i, int v) {
        lastFault = 0;
        Row row = sheetAt(k);
        if (row == null) {
            return UNKNOWN;
        }
        if (row.isNothing()) {
            return faulted(NULL);
        }
        if (!row.hasCells(i, 1)) {
            return faulted(INDEX);
        }
        row.cells[i] = row.cut(v);
        return 1;
    }

    public long cell(int k, int i, int lane) {
        lastFault = 0;
        Row row = sheetAt(k);
        if (row == null || !isWithin(lane, 0, LANES - 1)) {
            return LOST;
        }
        lastFault = row.faultOfCells(lane, i, 1);
        return lastFault == 0 ? row.cells[i] : LOST;
    }

    public int copy(int k, int i, int other, int j, int n) {
        lastFault = 0;
        Row source = sheetAt(k);
        Row target = sheetAt(other);
        if (source == null || target == null) {
            return UNKNOWN;
        }
        if (source.isNothing() || target.isNothing()) {
            return faulted(NULL);
        }
        if (source.lane != target.lane) {
            return faulted(CAST);
        }
        if (!source.hasCells(i, n) || !target.hasCells(j, n)) {
            return faulted(INDEX);
        }
        System.arraycopy(source.cells, i, target.cells, j, n);
        return n;
    }

    public int tell(int p) {
        Writer person = personAt(p);
        return person == null ? UNKNOWN : person.telling(trail);
    }

    public int greet(int p) {
        Writer person = personAt(p);
        return person == null ? UNKNOWN : person.greeting(trail);
    }

    public int as(int p, int kind) {
        lastFault = 0;
        Writer person = personAt(p);
        if (person == null) {
            return UNKNOWN;
        }
        if (!isWithin(kind, 0, KINDS - 1)) {
            return OUTSIDE;
        }
        return isOfKind(person, kind) ? 1 : faulted(CAST);
    }

    public int trace() {
        return trail.left;
    }

    public int fault() {
        return lastFault;
    }

    public int many(int what) {
        switch (what) {
            case 0: return personCount;
            case 1: return letters.count;
            case 2: return lawNow;
            default: return OUTSIDE;
        }
    }

    // ---- what the calls share

    private static boolean isWithin(int v, int low, int high) {
        return v >= low && v <= high;
    }

    private static boolean isDay(int day) {
        return isWithin(day, 0, LAST_DAY);
    }

    private static boolean isOfKind(Writer person, int kind) {
        switch (kind) {
            case WRITER: return true;
            case MISER: return person instanceof Miser;
            default: return person instanceof Lawyer;
        }
    }

    private Writer personAt(int p) {
        return p >= 0 && p < personCount ? persons[p] : null;
    }

    private Row sheetAt(int k) {
        return isWithin(k, 0, SHEETS - 1) ? sheets[k] : null;
    }

    private int faulted(int found) {
        lastFault = found;
        return -10 - found;
    }

    /** Makes all anew by a text that has no fault. */
    private void settle(int[] codes, int from, int n) {
        personCount = Text.personsOf(n);
        for (int p = 0; p < personCount; p++) {
            int at = from + Text.letterOf(p);
            persons[p] = newPerson(codes[at], p, Text.liftAt(codes, at + 1));
        }
        letters.burnLast(letters.count);
        lawNow = 0;
    }

    private static Writer newPerson(int letter, int number, int lift) {
        switch (letter) {
            case 'm': return new Miser(number, lift);
            case 'l': return new Lawyer(number, lift);
            default: return new Writer(number, lift);
        }
    }

    /** What the writer of one letter of a pair pays: its own scale against the other one's. */
    private static int pays(int law, int own, int others) {
        if (law == EACH_ITS_OWN || own == others) {
            return own;
        }
        boolean isLighter = own < others;
        return isLighter == (law == LIGHTER_PAYS) ? own + others : 0;
    }

    /** The text of a post: p, then persons of a letter and two digits each. */
    private static final class Text {
        /** The place of the first fault of the n codes from one on; NONE if they are a text. */
        static int firstFault(int[] codes, int from, int n) {
            for (int at = 0; at < n; at++) {
                if (!goesOn(codes, from, at)) {
                    return at;
                }
            }
            boolean isWhole = n == letterOf(personsOf(n));
            return isWhole && personsOf(n) >= FEWEST_PERSONS ? NONE : n;
        }

        /** How many whole persons a text of n codes tells. */
        static int personsOf(int n) {
            return n < 1 ? 0 : (n - 1) / 3;
        }

        /** The place of a person's letter. */
        static int letterOf(int p) {
            return 1 + 3 * p;
        }

        static int liftAt(int[] codes, int at) {
            return 10 * (codes[at] - '0') + codes[at + 1] - '0';
        }

        private static boolean goesOn(int[] codes, int from, int at) {
            int code = codes[from + at];
            if (at == 0) {
                return code == 'p';
            }
            if (personsOf(at) >= MOST_PERSONS) {
                return false;
            }
            switch ((at - 1) % 3) {
                case 0: return code == 'w' || code == 'm' || code == 'l';
                case 1: return code >= '0' && code <= '4';
                default: return isSecondDigit(codes[from + at - 1], code);
            }
        }

        private static boolean isSecondDigit(int tens, int code) {
            if (tens == '4') {
                return code == '0';
            }
            return code >= (tens == '0' ? '1' : '0') && code <= '9';
        }
    }

    /** What the bodies leave of themselves as they begin. */
    private static final class Trail {
        int left;

        void leave(int number) {
            left = 31 * left + number;
        }
    }

    private static class Writer {
        final int number;
        final int lift;

        Writer(int number, int lift) {
            this.number = number;
            this.lift = lift;
        }

        int kind() {
            return WRITER;
        }

        int shows(int weight) {
            return weight;
        }

        int telling(Trail trail) {
            return writersTelling(trail);
        }

        /** A writer's own body, for kinds further off that want it past the one between. */
        final int writersTelling(Trail trail) {
            trail.leave(1);
            return lift;
        }

        int greeting(Trail trail) {
            trail.leave(4);
            return number;
        }
    }

    private static class Miser extends Writer {
        Miser(int number, int lift) {
            super(number, lift);
        }

        int kind() {
            return MISER;
        }

        int shows(int weight) {
            return weight + 3;
        }

        int telling(Trail trail) {
            trail.leave(2);
            return super.telling(trail) + 100;
        }
    }

    private static final class Lawyer extends Miser {
        Lawyer(int number, int lift) {
            super(number, lift);
        }

        int kind() {
            return LAWYER;
        }

        int shows(int weight) {
            return super.shows(weight) + weight / 2;
        }

        int telling(Trail trail) {
            trail.leave(3);
            int misers = super.telling(trail);
            return misers + writersTelling(trail);
        }

        int greeting(Trail trail) {
            trail.leave(5);
            return 90;
        }
    }

    /** The letters, each told by its place in these rows. */
    private static final class Letters {
        final int[] from = new int[MOST_LETTERS];
        final int[] to = new int[MOST_LETTERS];
        final int[] weight = new int[MOST_LETTERS];
        final int[] day = new int[MOST_LETTERS];
        final int[] shown = new int[MOST_LETTERS];
        final int[] answer = new int[MOST_LETTERS];
        final int[] answered = new int[MOST_LETTERS];
        int count;

        boolean has(int letter) {
            return letter >= 0 && letter < count;
        }

        boolean isFull() {
            return count >= MOST_LETTERS;
        }

        boolean isAnswered(int letter) {
            return has(answer[letter]);
        }

        /** Only for letters that are not full. */
        int write(Writer sender, int receiver, int heavy, int on) {
            int number = count;
            from[number] = sender.number;
            to[number] = receiver;
            weight[number] = heavy;
            day[number] = on;
            shown[number] = sender.shows(heavy);
            answer[number] = NONE;
            answered[number] = NONE;
            count++;
            return number;
        }

        void pair(int letter, int itsAnswer) {
            answer[letter] = itsAnswer;
            answered[itsAnswer] = letter;
        }

        void burnLast(int k) {
            for (int burnt = 0; burnt < k && count > 0; burnt++) {
                count--;
                if (has(answered[count])) {
                    answer[answered[count]] = NONE;
                }
            }
        }

        int paidBy(int p, int until, int law) {
            return paidIf(p, until, law, NONE, 0);
        }

        /** What a person paid, if the scale had shown another number of one letter (NONE: of none). */
        int paidIf(int p, int until, int law, int letter, int other) {
            int sum = 0;
            for (int k = 0; k < count; k++) {
                int back = answer[k];
                if (has(back) && day[back] <= until) {
                    int there = k == letter ? other : shown[k];
                    int here = back == letter ? other : shown[back];
                    if (from[k] == p) {
                        sum += pays(law, there, here);
                    } else if (to[k] == p) {
                        sum += pays(law, here, there);
                    }
                }
            }
            return sum;
        }

        int owed(int p, int other, int on) {
            int sum = 0;
            for (int k = 0; k < count; k++) {
                if (to[k] == p && from[k] == other) {
                    sum += owedFor(k, on);
                }
            }
            return sum;
        }

        int netOf(int p, int on) {
            int sum = 0;
            for (int k = 0; k < count; k++) {
                if (from[k] == p) {
                    sum += owedFor(k, on);
                } else if (to[k] == p) {
                    sum -= owedFor(k, on);
                }
            }
            return sum;
        }

        private int owedFor(int letter, int on) {
            int back = answer[letter];
            boolean isAnsweredBy = has(back) && day[back] <= on;
            return day[letter] > on || isAnsweredBy ? 0 : (on - day[letter]) * shown[letter];
        }
    }

    /** The fewest payments, found over all sets (as bits) of those whose net is not 0. */
    private static final class Settling {
        final int[] nets = new int[MOST_PERSONS];
        final int[] sums = new int[1 << MOST_PERSONS];
        final int[] groups = new int[1 << MOST_PERSONS];
        int count;

        void clear() {
            count = 0;
        }

        void take(int net) {
            if (net != 0 && count < MOST_PERSONS) {
                nets[count] = net;
                count++;
            }
        }

        int fewestPayments() {
            int sets = 1 << count;
            for (int set = 1; set < sets; set++) {
                fill(set);
            }
            return count - groups[sets - 1];
        }

        /** A set's most groups: those of it less one, and one more whenever the sum comes back to 0. */
        private void fill(int set) {
            int most = 0;
            int sum = 0;
            for (int p = 0; p < count; p++) {
                int one = 1 << p;
                if ((set & one) != 0) {
                    most = Math.max(most, groups[set ^ one]);
                    sum = sums[set ^ one] + nets[p];
                }
            }
            sums[set] = sum;
            groups[set] = sum == 0 ? most + 1 : most;
        }
    }

    /** Two who write back and forth, told from the last letter to the first. */
    private static final class Turns {
        final int[][] chosen = new int[MOST_TURNS][MOST_LIFT + 1];
        /** Of a turn (odd or even): what who is in turn pays, and who is not, behind each weight. */
        final int[][] inTurn = new int[2][MOST_LIFT + 1];
        final int[][] waiting = new int[2][MOST_LIFT + 1];
        final int[][] shown = new int[2][MOST_LIFT + 1];
        final int[] lift = new int[2];
        final int[] weights = new int[MOST_TURNS];
        int fine;
        int law;
        int written;
        int costOfFirst;
        int costOfOther;

        /** For 1 .. MOST_TURNS letters. */
        void play(Writer first, Writer other, int n, int itsFine, int itsLaw) {
            fine = itsFine;
            law = itsLaw;
            weighAll(first, 0);
            weighAll(other, 1);
            for (int w = 0; w <= MOST_LIFT; w++) {
                inTurn[n & 1][w] = 0;
                waiting[n & 1][w] = 0;
            }
            for (int k = n - 1; k >= 1; k--) {
                for (int before = 1; before <= lift[(k + 1) & 1]; before++) {
                    choose(k, before);
                }
            }
            write(n);
        }

        private void weighAll(Writer person, int side) {
            lift[side] = Math.min(person.lift, MOST_LIFT);
            for (int w = 1; w <= lift[side]; w++) {
                shown[side][w] = person.shows(w);
            }
        }

        /** What is best for letter k, behind one so heavy. */
        private void choose(int k, int before) {
            int side = k & 1;
            int next = side ^ 1;
            int scale = shown[next][before];
            int least = fine;
            int weight = 0;
            for (int w = 1; w <= lift[side]; w++) {
                int sum = pays(law, shown[side][w], scale) + waiting[next][w];
                if (sum < least) {
                    least = sum;
                    weight = w;
                }
            }
            chosen[k][before] = weight;
            inTurn[side][before] = least;
            waiting[side][before] = weight == 0 ? 0 : pays(law, scale, shown[side][weight]) + inTurn[next][weight];
        }

        private void write(int n) {
            int weight = 1;
            for (int w = 2; w <= lift[0]; w++) {
                if (waiting[1][w] < waiting[1][weight]) {
                    weight = w;
                }
            }
            costOfFirst = waiting[1][weight];
            costOfOther = inTurn[1][weight];
            weights[0] = weight;
            written = 1;
            for (int k = 1; k < n && weight != 0; k++) {
                weight = chosen[k][weight];
                weights[k] = weight;
                written += weight == 0 ? 0 : 1;
            }
        }
    }

    /** One letter in parts against answers that are expected, told from the last part to the first. */
    private static final class Parts {
        final int[][] chosen = new int[MOST_PARTS][HEAVIEST + 1];
        /** Of a part (odd or even): what it and all behind it cost, of each weight that is left. */
        final int[][] least = new int[2][HEAVIEST + 1];
        final int[] price = new int[HEAVIEST + 1];
        final int[] weights = new int[MOST_PARTS];
        int sum;

        /** For 1 .. MOST_PARTS parts, no more of them than the weight. */
        void part(Writer person, int weight, int[] scales, int from, int n, int law) {
            for (int k = n - 1; k >= 0; k--) {
                for (int w = 1; w <= weight; w++) {
                    price[w] = pays(law, person.shows(w), scales[from + k]);
                }
                int behind = n - 1 - k;
                int lightest = k == 0 ? weight : behind + 1;
                for (int left = lightest; left <= weight - k; left++) {
                    choose(k, left, behind);
                }
            }
            sum = least[0][weight];
            int left = weight;
            for (int k = 0; k < n; k++) {
                weights[k] = chosen[k][left];
                left -= weights[k];
            }
        }

        /** What is best for part k of what is left, with so many parts behind it. */
        private void choose(int k, int left, int behind) {
            int weight = behind == 0 ? left : 1;
            int low = costOf(k, weight, left, behind);
            for (int w = weight + 1; w <= left - behind; w++) {
                int cost = costOf(k, w, left, behind);
                if (cost < low) {
                    low = cost;
                    weight = w;
                }
            }
            chosen[k][left] = weight;
            least[k & 1][left] = low;
        }

        private int costOf(int k, int w, int left, int behind) {
            return behind == 0 ? price[w] : price[w] + least[(k + 1) & 1][left - w];
        }
    }

    /** A sheet: nothing, or a row of a lane. */
    private static final class Row {
        final int[] cells = new int[MOST_CELLS];
        int lane = NOTHING;
        int size;

        boolean isNothing() {
            return lane == NOTHING;
        }

        void begin(int itsLane, int n) {
            lane = itsLane;
            size = n;
            for (int i = 0; i < MOST_CELLS; i++) {
                cells[i] = 0;
            }
        }

        int cut(int v) {
            switch (lane) {
                case 0: return (byte) v;
                case 1: return (short) v;
                default: return v;
            }
        }

        /** No sum of i and n, which could wrap. */
        boolean hasCells(int i, int n) {
            return i >= 0 && i <= size && n >= 0 && n <= size - i;
        }

        boolean allWithin(int from, int n, int low, int high) {
            for (int i = from; i < from + n; i++) {
                if (!isWithin(cells[i], low, high)) {
                    return false;
                }
            }
            return true;
        }

        /** The fault of n cells from i on, taken as a row of a lane; 0 if there is none. */
        int faultOfCells(int itsLane, int i, int n) {
            if (isNothing()) {
                return NULL;
            }
            if (lane != itsLane) {
                return CAST;
            }
            if (n < 0) {
                return SIZE;
            }
            return hasCells(i, n) ? 0 : INDEX;
        }
    }
}
