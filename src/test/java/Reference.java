import java.util.ArrayList;
import java.util.HashMap;
import java.util.List;
import java.util.Map;
import java.util.TreeSet;

/**
 * The document once more, told as plainly as it goes and with none of the class's own ways:
 * lists, sets, recursion and no regard for speed.
 */
final class Reference {
    static final int NONE = -1;

    record Rule(String name, int kind, TreeSet<Integer> set) {
        List<Integer> amountsOf(int n) {
            List<Integer> amounts = new ArrayList<>();
            for (int a = 1; a <= n; a++) {
                boolean fits = switch (kind) {
                    case 0 -> set.contains(a);
                    case 1 -> a != n && n % a == 0;
                    case 2 -> 2 * a <= n;
                    case 3 -> Integer.bitCount(a) == 1;
                    default -> Math.round(Math.sqrt(a)) * Math.round(Math.sqrt(a)) == a;
                };
                if (fits) {
                    amounts.add(a);
                }
            }
            return amounts;
        }

        int[] valuesUpTo(int last) {
            int[] values = new int[last + 1];
            for (int n = 0; n <= last; n++) {
                TreeSet<Integer> reached = new TreeSet<>();
                for (int a : amountsOf(n)) {
                    reached.add(values[n - a]);
                }
                values[n] = mex(reached);
            }
            return values;
        }
    }

    record Heap(int rule, int size) {
    }

    record Move(int kind, int heap, int other, int amount) {
        int tell(int what) {
            return what == 0 ? kind : what == 1 ? heap : what == 2 ? other : amount;
        }
    }

    record State(List<Heap> heaps, int passes, boolean misere, List<Move> record) {
    }

    record Outcome(int value, boolean won, int length) {
    }

    /** The first error of a text. */
    static final class TextError extends RuntimeException {
        private static final long serialVersionUID = 1L;
        final int offset;
        final int kind;

        TextError(int offset, int kind) {
            this.offset = offset;
            this.kind = kind;
        }
    }

    private List<Integer> input = new ArrayList<>();
    private List<Rule> rules = new ArrayList<>();
    private List<int[]> values = new ArrayList<>();
    private TreeSet<Integer> shared = new TreeSet<>();
    private State state = new State(List.of(), 0, false, List.of());
    private List<State> undoable = new ArrayList<>();
    private State[] slots = new State[2];
    private Map<List<Integer>, Outcome> outcomes = new HashMap<>();
    private List<Object> outcomesOf = List.of();

    static int mex(TreeSet<Integer> set) {
        int least = 0;
        while (set.contains(least)) {
            least++;
        }
        return least;
    }

    // ---- text

    int append(int a, int b, int c, int d, int e) {
        if (input.size() + 20 > 400) {
            return NONE;
        }
        for (int four : new int[] {a, b, c, d, e}) {
            input.add(four >>> 24);
            input.add(four >>> 16 & 255);
            input.add(four >>> 8 & 255);
            input.add(four & 255);
        }
        return input.size();
    }

    int parse(int bytes) {
        if (bytes < 0 || bytes > input.size()) {
            throw new IllegalArgumentException();
        }
        StringBuilder text = new StringBuilder();
        for (int byteThere : input.subList(0, bytes)) {
            text.append((char) byteThere);
        }
        input.clear();
        Reader reader = new Reader(text.toString());
        try {
            reader.readAll();
        } catch (TextError error) {
            return -2 - (8 * error.offset + error.kind);
        }
        rules = reader.rules;
        values = new ArrayList<>();
        for (Rule rule : rules) {
            values.add(rule.valuesUpTo(300));
        }
        shared = reader.shared;
        state = new State(List.copyOf(reader.heaps), reader.passes, reader.misere, List.of());
        undoable.clear();
        slots = new State[2];
        outcomesOf = List.of();
        return rules.size();
    }

    record Token(String text, int offset) {
        boolean isWord() {
            return text.matches("[a-z]+");
        }

        boolean isName() {
            return text.matches("[a-z]{1,8}");
        }

        boolean isNumber() {
            return text.matches("[0-9]{1,2}");
        }
    }

    private static final class Reader {
        final List<Token> tokens = new ArrayList<>();
        int next = 0;
        final List<Rule> rules = new ArrayList<>();
        final List<Heap> heaps = new ArrayList<>();
        TreeSet<Integer> shared = new TreeSet<>();
        int passes = 0;
        boolean misere = false;
        final TreeSet<String> told = new TreeSet<>();

        Reader(String text) {
            java.util.regex.Matcher matcher =
                    java.util.regex.Pattern.compile("[a-z]+|[0-9]+|[^ ]", java.util.regex.Pattern.DOTALL).matcher(text);
            while (matcher.find()) {
                tokens.add(new Token(matcher.group(), matcher.start()));
            }
            tokens.add(new Token("", text.length()));
        }

        void require(boolean holds, int kind) {
            if (!holds) {
                throw new TextError(tokens.get(next).offset, kind);
            }
        }

        String word() {
            return tokens.get(next).text;
        }

        void readAll() {
            while (!word().isEmpty()) {
                readStatement();
                require(word().equals(";"), 1);
                next++;
            }
        }

        void readStatement() {
            String keyword = word();
            switch (keyword) {
                case "rule":
                    require(rules.size() < 6, 5);
                    next++;
                    readRule();
                    break;
                case "heap":
                    require(heaps.size() < 4, 5);
                    next++;
                    readHeap();
                    break;
                case "shared":
                    require(told.add(keyword), 2);
                    next++;
                    shared = readAmounts(15);
                    break;
                case "passes":
                    require(told.add(keyword), 2);
                    next++;
                    passes = readNumber(3);
                    break;
                case "misere":
                    require(told.add(keyword), 2);
                    next++;
                    misere = true;
                    break;
                default:
                    require(false, 1);
            }
        }

        void readRule() {
            require(tokens.get(next).isName(), 1);
            String name = word();
            require(indexOf(name) == NONE, 2);
            next++;
            int kind = List.of("take", "divisors", "half", "powers", "squares").indexOf(word());
            require(kind >= 0, 1);
            next++;
            rules.add(new Rule(name, kind, kind == 0 ? readAmounts(60) : new TreeSet<>()));
        }

        int indexOf(String name) {
            for (int i = 0; i < rules.size(); i++) {
                if (rules.get(i).name.equals(name)) {
                    return i;
                }
            }
            return NONE;
        }

        void readHeap() {
            require(tokens.get(next).isName(), 1);
            int rule = indexOf(word());
            require(rule != NONE, 4);
            next++;
            heaps.add(new Heap(rule, readNumber(15)));
        }

        int readNumber(int most) {
            require(tokens.get(next).isNumber(), 1);
            int number = Integer.parseInt(word());
            require(number <= most, 3);
            next++;
            return number;
        }

        TreeSet<Integer> readAmounts(int most) {
            TreeSet<Integer> amounts = new TreeSet<>();
            do {
                require(tokens.get(next).isNumber(), 1);
                int amount = Integer.parseInt(word());
                require(!amounts.contains(amount), 2);
                require(amount >= 1 && amount <= most, 3);
                require(amounts.size() < 8, 5);
                amounts.add(amount);
                next++;
            } while (word().matches("[0-9]+"));
            return amounts;
        }
    }

    // ---- rules

    private Rule ruleOf(int rule) {
        if (rule < 0 || rule >= rules.size()) {
            throw new IndexOutOfBoundsException();
        }
        return rules.get(rule);
    }

    private Rule ruleOf(int rule, int n) {
        Rule found = ruleOf(rule);
        if (n < 0 || n > 300) {
            throw new IllegalArgumentException();
        }
        return found;
    }

    int size(int what) {
        switch (what) {
            case 0: return rules.size();
            case 1: return state.heaps.size();
            case 2: return state.passes;
            case 3: return bits(shared);
            case 4: return state.misere ? 1 : 0;
            case 5: return input.size();
            case 6: return state.record.size();
            case 7: return state.record.size() % 2;
            case 8:
                if (moves() > 0) {
                    return NONE;
                }
                return state.misere == (state.record.size() % 2 == 0) ? 0 : 1;
            case 9: return undoable.size();
            default: throw new IllegalArgumentException();
        }
    }

    private static int bits(TreeSet<Integer> set) {
        int bits = 0;
        for (int element : set) {
            bits += 1 << element;
        }
        return bits;
    }

    int kind(int rule) {
        return ruleOf(rule).kind;
    }

    boolean mayTake(int rule, int n, int amount) {
        return ruleOf(rule, n).amountsOf(n).contains(amount);
    }

    int amounts(int rule, int n) {
        return ruleOf(rule, n).amountsOf(n).size();
    }

    int value(int rule, int n) {
        ruleOf(rule, n);
        return values.get(rule)[n];
    }

    int heapWith(int rule, int value, int index) {
        ruleOf(rule);
        List<Integer> found = new ArrayList<>();
        for (int n = 0; n <= 300; n++) {
            if (values.get(rule)[n] == value) {
                found.add(n);
            }
        }
        return index >= 0 && index < found.size() ? found.get(index) : NONE;
    }

    int greatest(int rule, int upTo) {
        ruleOf(rule, upTo);
        TreeSet<Integer> all = new TreeSet<>();
        for (int n = 0; n <= upTo; n++) {
            all.add(values.get(rule)[n]);
        }
        return all.last();
    }

    double zeros(int rule, int upTo) {
        ruleOf(rule, upTo);
        double count = 0;
        for (int n = 0; n <= upTo; n++) {
            count += values.get(rule)[n] == 0 ? 1 : 0;
        }
        return count / (upTo + 1.0);
    }

    /** The period, its start, and 1 if it is proved; NONE, NONE and 0 without a period. */
    private int[] periodOf(int rule, int last) {
        Rule found = ruleOf(rule, last);
        int[] of = values.get(rule);
        for (int p = 1; p <= last + 1; p++) {
            for (int s = 0; s + 2 * p <= last + 1; s++) {
                boolean same = true;
                for (int n = s; n <= last - p; n++) {
                    same = same && of[n] == of[n + p];
                }
                if (same) {
                    boolean proved = found.kind == 0 && last - p - s + 1 >= found.set.last();
                    return new int[] {p, s, proved ? 1 : 0};
                }
            }
        }
        return new int[] {NONE, NONE, 0};
    }

    int period(int rule, int upTo) {
        return periodOf(rule, upTo)[0];
    }

    int start(int rule, int upTo) {
        return periodOf(rule, upTo)[1];
    }

    boolean isProved(int rule, int upTo) {
        return periodOf(rule, upTo)[2] == 1;
    }

    // ---- the position

    private Heap heapAt(int heap) {
        if (heap < 0 || heap >= state.heaps.size()) {
            throw new IndexOutOfBoundsException();
        }
        return state.heaps.get(heap);
    }

    int heap(int heap, int what) {
        Heap found = heapAt(heap);
        switch (what) {
            case 0: return found.rule;
            case 1: return found.size;
            case 2: return value(found.rule, found.size);
            case 3: return amounts(found.rule, found.size);
            default: throw new IllegalArgumentException();
        }
    }

    int nimSum() {
        int sum = 0;
        for (Heap heap : state.heaps) {
            sum ^= value(heap.rule, heap.size);
        }
        return sum;
    }

    private List<Move> movesOf(List<Integer> sizes, int passes) {
        List<Move> moves = new ArrayList<>();
        for (int h = 0; h < sizes.size(); h++) {
            for (int a : rules.get(state.heaps.get(h).rule).amountsOf(sizes.get(h))) {
                moves.add(new Move(0, h, NONE, a));
            }
        }
        for (int h = 0; h < sizes.size(); h++) {
            for (int o = h + 1; o < sizes.size(); o++) {
                for (int a : shared) {
                    if (sizes.get(h) >= a && sizes.get(o) >= a) {
                        moves.add(new Move(1, h, o, a));
                    }
                }
            }
        }
        if (passes > 0 && !moves.isEmpty()) {
            moves.add(new Move(2, NONE, NONE, 0));
        }
        return moves;
    }

    /** The counters of the heaps, and the passes last. */
    private static List<Integer> after(List<Integer> position, Move move) {
        List<Integer> next = new ArrayList<>(position);
        if (move.kind == 2) {
            next.set(next.size() - 1, next.get(next.size() - 1) - 1);
        } else {
            next.set(move.heap, next.get(move.heap) - move.amount);
            if (move.kind == 1) {
                next.set(move.other, next.get(move.other) - move.amount);
            }
        }
        return next;
    }

    private List<Integer> position() {
        List<Integer> position = new ArrayList<>();
        for (Heap heap : state.heaps) {
            position.add(heap.size);
        }
        position.add(state.passes);
        return position;
    }

    private List<Move> movesAt(List<Integer> position) {
        int last = position.size() - 1;
        return movesOf(position.subList(0, last), position.get(last));
    }

    private Outcome outcome(List<Integer> position) {
        List<Object> about = new ArrayList<>();
        for (Heap heap : state.heaps) {
            about.add(heap.rule);
        }
        about.add(state.misere);
        if (!about.equals(outcomesOf)) {
            outcomes.clear();
            outcomesOf = about;
        }
        return outcomeOf(position);
    }

    private Outcome outcomeOf(List<Integer> position) {
        Outcome known = outcomes.get(position);
        if (known != null) {
            return known;
        }
        TreeSet<Integer> reached = new TreeSet<>();
        TreeSet<Integer> lost = new TreeSet<>();
        TreeSet<Integer> all = new TreeSet<>();
        for (Move move : movesAt(position)) {
            Outcome next = outcomeOf(after(position, move));
            reached.add(next.value);
            all.add(next.length);
            if (!next.won) {
                lost.add(next.length);
            }
        }
        Outcome found;
        if (all.isEmpty()) {
            found = new Outcome(0, state.misere, 0);
        } else if (lost.isEmpty()) {
            found = new Outcome(mex(reached), false, 1 + all.last());
        } else {
            found = new Outcome(mex(reached), true, 1 + lost.first());
        }
        outcomes.put(position, found);
        return found;
    }

    int positionValue() {
        return outcome(position()).value;
    }

    boolean isWon() {
        return outcome(position()).won;
    }

    int length() {
        return outcome(position()).length;
    }

    int moves() {
        return movesAt(position()).size();
    }

    int move(int index, int what) {
        List<Move> moves = movesAt(position());
        if (index < 0 || index >= moves.size()) {
            throw new IndexOutOfBoundsException();
        }
        if (what < 0 || what > 6) {
            throw new IllegalArgumentException();
        }
        Move move = moves.get(index);
        if (what <= 3) {
            return move.tell(what);
        }
        Outcome next = outcome(after(position(), move));
        return what == 4 ? next.value : what == 5 ? (next.won ? 0 : 1) : next.length;
    }

    int winning() {
        int count = 0;
        for (int i = 0; i < moves(); i++) {
            count += move(i, 5);
        }
        return count;
    }

    int best() {
        int found = NONE;
        boolean anyWins = winning() > 0;
        for (int i = 0; i < moves(); i++) {
            if (anyWins && move(i, 5) == 0) {
                continue;
            }
            if (found == NONE || (anyWins ? move(i, 6) < move(found, 6) : move(i, 6) > move(found, 6))) {
                found = i;
            }
        }
        return found;
    }

    int lostWith(int heap) {
        heapAt(heap);
        int bits = 0;
        for (int size = 0; size <= 15; size++) {
            List<Integer> changed = position();
            changed.set(heap, size);
            if (!outcome(changed).won) {
                bits |= 1 << size;
            }
        }
        return bits;
    }

    int lostBelow() {
        return countLost(position(), 0);
    }

    private int countLost(List<Integer> position, int from) {
        if (from == position.size() - 1) {
            return outcome(position).won ? 0 : 1;
        }
        int count = 0;
        for (int size = 0; size <= state.heaps.get(from).size; size++) {
            List<Integer> changed = new ArrayList<>(position);
            changed.set(from, size);
            count += countLost(changed, from + 1);
        }
        return count;
    }

    int played(int index, int what) {
        if (index < 0 || index >= state.record.size()) {
            throw new IndexOutOfBoundsException();
        }
        if (what < 0 || what > 3) {
            throw new IllegalArgumentException();
        }
        return state.record.get(index).tell(what);
    }

    // ---- changes

    private void become(State next) {
        undoable.add(state);
        if (undoable.size() > 10) {
            undoable.remove(0);
        }
        state = next;
    }

    private boolean playIt(Move move) {
        if (state.record.size() == 40) {
            return false;
        }
        List<Integer> next = after(position(), move);
        List<Heap> heaps = new ArrayList<>();
        for (int h = 0; h < state.heaps.size(); h++) {
            heaps.add(new Heap(state.heaps.get(h).rule, next.get(h)));
        }
        List<Move> record = new ArrayList<>(state.record);
        record.add(move);
        become(new State(heaps, next.get(next.size() - 1), state.misere, record));
        return true;
    }

    private Move theMove(Move move) {
        if (!movesAt(position()).contains(move)) {
            throw new IllegalArgumentException();
        }
        return move;
    }

    int take(int heap, int amount) {
        heapAt(heap);
        return playIt(theMove(new Move(0, heap, NONE, amount))) ? heapAt(heap).size : NONE;
    }

    int takeBoth(int heap, int other, int amount) {
        heapAt(heap);
        heapAt(other);
        if (!playIt(theMove(new Move(1, Math.min(heap, other), Math.max(heap, other), amount)))) {
            return NONE;
        }
        int sum = 0;
        for (Heap each : state.heaps) {
            sum += each.size;
        }
        return sum;
    }

    int pass() {
        if (!movesAt(position()).contains(new Move(2, NONE, NONE, 0))) {
            throw new IllegalStateException();
        }
        return playIt(new Move(2, NONE, NONE, 0)) ? state.passes : NONE;
    }

    int play() {
        int found = best();
        if (found == NONE) {
            throw new IllegalStateException();
        }
        return playIt(movesAt(position()).get(found)) ? found : NONE;
    }

    private static void requireUpTo(int number, int most) {
        if (number < 0 || number > most) {
            throw new IllegalArgumentException();
        }
    }

    int setSize(int heap, int size) {
        Heap before = heapAt(heap);
        requireUpTo(size, 15);
        List<Heap> heaps = new ArrayList<>(state.heaps);
        heaps.set(heap, new Heap(before.rule, size));
        become(new State(heaps, state.passes, state.misere, state.record));
        return before.size;
    }

    int setPasses(int passes) {
        requireUpTo(passes, 3);
        int before = state.passes;
        become(new State(state.heaps, passes, state.misere, state.record));
        return before;
    }

    boolean setMisere(boolean misere) {
        boolean before = state.misere;
        become(new State(state.heaps, state.passes, misere, state.record));
        return before;
    }

    int addHeap(int rule, int size) {
        ruleOf(rule);
        requireUpTo(size, 15);
        if (state.heaps.size() == 4) {
            throw new IllegalStateException();
        }
        List<Heap> heaps = new ArrayList<>(state.heaps);
        heaps.add(new Heap(rule, size));
        become(new State(heaps, state.passes, state.misere, state.record));
        return heaps.size() - 1;
    }

    int removeHeap(int heap) {
        heapAt(heap);
        List<Heap> heaps = new ArrayList<>(state.heaps);
        heaps.remove(heap);
        become(new State(heaps, state.passes, state.misere, state.record));
        return heaps.size();
    }

    int undo() {
        if (undoable.isEmpty()) {
            return NONE;
        }
        state = undoable.remove(undoable.size() - 1);
        return undoable.size();
    }

    boolean saveSnapshot(int slot) {
        requireUpTo(slot, 1);
        boolean was = slots[slot] != null;
        slots[slot] = state;
        return was;
    }

    int restoreSnapshot(int slot) {
        requireUpTo(slot, 1);
        if (slots[slot] == null) {
            throw new IllegalStateException();
        }
        state = slots[slot];
        undoable.clear();
        return state.heaps.size();
    }

    long checksum() {
        List<Integer> numbers = new ArrayList<>();
        numbers.add(rules.size());
        for (Rule rule : rules) {
            numbers.add(rule.kind);
        }
        numbers.add(state.heaps.size());
        for (Heap heap : state.heaps) {
            numbers.add(heap.rule);
            numbers.add(heap.size);
        }
        numbers.add(state.passes);
        numbers.add(bits(shared));
        numbers.add(state.misere ? 1 : 0);
        numbers.add(state.record.size());
        for (Move move : state.record) {
            for (int what = 0; what < 4; what++) {
                numbers.add(move.tell(what));
            }
        }
        long sum = 0;
        for (int number : numbers) {
            sum = 31 * sum + number;
        }
        return sum;
    }
}
