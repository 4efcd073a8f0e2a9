import java.util.Arrays;

/**
 * Games with heaps of counters, as ../shared/DOC.md promises them.
 *
 * A position is one int: four bits for the counters of each heap, heap 0 lowest, and the passes
 * above them. A move is the int that it subtracts from a position. So whatever a move leads to
 * has a lower number, and a table of positions can be filled in the order of their numbers.
 */
public final class HeapGames {
    public static final int NONE = -1;

    private static final int MOST_BYTES = 400;
    private static final int BYTES_AT_ONCE = 20;
    private static final int MOST_RULES = 6;
    private static final int MOST_HEAPS = 4;
    private static final int MOST_COUNTERS = 300;
    private static final int MOST_SIZE = 15;
    private static final int MOST_PASSES = 3;
    private static final int MOST_PLAYED = 40;
    private static final int MOST_CHANGES = 10;
    private static final int SLOTS = 2;

    private static final int TAKE = 0;
    private static final int DIVISORS = 1;
    private static final int HALF = 2;
    private static final int POWERS = 3;
    private static final int SQUARES = 4;
    private static final int MOST_AMOUNT = 60;

    private static final int PASS_SHIFT = 16;
    private static final int PASS = 1 << PASS_SHIFT;
    private static final int POSITIONS = (MOST_PASSES + 1) << PASS_SHIFT;

    private Game game = new Game();
    private final TextReader reader = new TextReader();
    private final Solver solver = new Solver();
    private final History history = new History();
    private final State[] snapshots = new State[SLOTS];
    private final boolean[] isSaved = new boolean[SLOTS];

    public HeapGames() {
        for (int slot = 0; slot < SLOTS; slot++) {
            snapshots[slot] = new State();
        }
    }

    // ---- the text

    public int append(int a, int b, int c, int d, int e) {
        if (reader.inputLength + BYTES_AT_ONCE > MOST_BYTES) {
            return NONE;
        }
        reader.addBytes(a);
        reader.addBytes(b);
        reader.addBytes(c);
        reader.addBytes(d);
        reader.addBytes(e);
        return reader.inputLength;
    }

    public int parse(int bytes) throws IllegalArgumentException {
        if (bytes < 0 || bytes > reader.inputLength) {
            throw new IllegalArgumentException("bytes is out of range");
        }
        reader.inputLength = 0;
        if (!reader.readText(bytes)) {
            return reader.failure;
        }
        Game replaced = game;
        game = reader.draft;
        reader.draft = replaced;
        game.fillValues();
        solver.forget();
        history.clear();
        for (int slot = 0; slot < SLOTS; slot++) {
            isSaved[slot] = false;
        }
        return game.ruleCount;
    }

    // ---- what is there

    public int size(int what) throws IllegalArgumentException {
        State state = game.state;
        switch (what) {
            case 0: return game.ruleCount;
            case 1: return state.heaps;
            case 2: return passesOf(state.position);
            case 3: return game.shared;
            case 4: return state.misere ? 1 : 0;
            case 5: return reader.inputLength;
            case 6: return state.playedCount;
            case 7: return playerToMove();
            case 8: return winner();
            case 9: return history.count;
            default: throw new IllegalArgumentException("what is out of range");
        }
    }

    private int playerToMove() {
        return game.state.playedCount % 2;
    }

    private int winner() {
        if (listMoves() > 0) {
            return NONE;
        }
        return game.state.misere ? playerToMove() : 1 - playerToMove();
    }

    // ---- rules

    public int kind(int rule) throws IndexOutOfBoundsException {
        return requireRule(rule).ruleKind;
    }

    public boolean mayTake(int rule, int n, int amount)
            throws IndexOutOfBoundsException, IllegalArgumentException {
        Rule found = requireRule(rule);
        requireCounters(n);
        return found.allows(n, amount);
    }

    public int amounts(int rule, int n)
            throws IndexOutOfBoundsException, IllegalArgumentException {
        Rule found = requireRule(rule);
        requireCounters(n);
        return found.countAmounts(n);
    }

    public int value(int rule, int n)
            throws IndexOutOfBoundsException, IllegalArgumentException {
        Rule found = requireRule(rule);
        requireCounters(n);
        return found.valueOf(n);
    }

    public int heapWith(int rule, int value, int index) throws IndexOutOfBoundsException {
        Rule found = requireRule(rule);
        int left = index;
        for (int n = 0; n <= MOST_COUNTERS && left >= 0; n++) {
            if (found.valueOf(n) == value) {
                if (left == 0) {
                    return n;
                }
                left--;
            }
        }
        return NONE;
    }

    public int greatest(int rule, int upTo)
            throws IndexOutOfBoundsException, IllegalArgumentException {
        Rule found = requireRule(rule);
        requireCounters(upTo);
        int most = 0;
        for (int n = 0; n <= upTo; n++) {
            most = Math.max(most, found.valueOf(n));
        }
        return most;
    }

    public double zeros(int rule, int upTo)
            throws IndexOutOfBoundsException, IllegalArgumentException {
        Rule found = requireRule(rule);
        requireCounters(upTo);
        int count = 0;
        for (int n = 0; n <= upTo; n++) {
            if (found.valueOf(n) == 0) {
                count++;
            }
        }
        return (double) count / (double) (upTo + 1);
    }

    public int period(int rule, int upTo)
            throws IndexOutOfBoundsException, IllegalArgumentException {
        Rule found = requireRule(rule);
        requireCounters(upTo);
        return found.periodUpTo(upTo);
    }

    public int start(int rule, int upTo)
            throws IndexOutOfBoundsException, IllegalArgumentException {
        Rule found = requireRule(rule);
        requireCounters(upTo);
        int step = found.periodUpTo(upTo);
        return step == NONE ? NONE : found.startOfStep(step, upTo);
    }

    public boolean isProved(int rule, int upTo)
            throws IndexOutOfBoundsException, IllegalArgumentException {
        Rule found = requireRule(rule);
        requireCounters(upTo);
        int step = found.periodUpTo(upTo);
        if (step == NONE || found.ruleKind != TAKE) {
            return false;
        }
        return upTo - step - found.startOfStep(step, upTo) + 1 >= found.greatestAmount();
    }

    private Rule requireRule(int rule) {
        if (rule < 0 || rule >= game.ruleCount) {
            throw new IndexOutOfBoundsException("there is no such rule");
        }
        return game.ruleAt(rule);
    }

    private static void requireCounters(int n) {
        if (n < 0 || n > MOST_COUNTERS) {
            throw new IllegalArgumentException("the counters are out of range");
        }
    }

    // ---- the position

    public int heap(int heap, int what)
            throws IndexOutOfBoundsException, IllegalArgumentException {
        requireHeap(heap);
        int counters = countersOf(heap);
        switch (what) {
            case 0: return bitsOf(game.state.heapRules, heap);
            case 1: return counters;
            case 2: return game.ruleOfHeap(heap).valueOf(counters);
            case 3: return game.ruleOfHeap(heap).countAmounts(counters);
            default: throw new IllegalArgumentException("what is out of range");
        }
    }

    public int nimSum() {
        int sum = 0;
        for (int heap = 0; heap < game.state.heaps; heap++) {
            sum ^= game.ruleOfHeap(heap).valueOf(countersOf(heap));
        }
        return sum;
    }

    public int positionValue() {
        solvePosition();
        return solver.valueAt(game.state.position);
    }

    public boolean isWon() {
        solvePosition();
        return solver.isWonAt(game.state.position);
    }

    public int length() {
        solvePosition();
        return solver.lengthAt(game.state.position);
    }

    public int moves() {
        return listMoves();
    }

    public int move(int index, int what)
            throws IndexOutOfBoundsException, IllegalArgumentException {
        if (index < 0 || index >= listMoves()) {
            throw new IndexOutOfBoundsException("there is no such move");
        }
        if (what < 0 || what > 6) {
            throw new IllegalArgumentException("what is out of range");
        }
        int next = solver.nextAt(index);
        if (what <= 3) {
            return describe(game.state.position - next, what);
        }
        solvePosition();
        switch (what) {
            case 4: return solver.valueAt(next);
            case 5: return solver.isWonAt(next) ? 0 : 1;
            default: return solver.lengthAt(next);
        }
    }

    public int winning() {
        solvePosition();
        int moves = listMoves();
        int count = 0;
        for (int index = 0; index < moves; index++) {
            if (!solver.isWonAt(solver.nextAt(index))) {
                count++;
            }
        }
        return count;
    }

    public int best() {
        solvePosition();
        return findBest();
    }

    private int findBest() {
        int moves = listMoves();
        int found = NONE;
        for (int index = 0; index < moves; index++) {
            if (found == NONE || isBetter(solver.nextAt(index), solver.nextAt(found))) {
                found = index;
            }
        }
        return found;
    }

    private boolean isBetter(int next, int other) {
        boolean isWonNext = solver.isWonAt(next);
        if (isWonNext != solver.isWonAt(other)) {
            return !isWonNext;
        }
        int difference = solver.lengthAt(next) - solver.lengthAt(other);
        // the winner hurries, the loser delays; a tie is not better, so the lowest index stays
        return isWonNext ? difference > 0 : difference < 0;
    }

    public int lostWith(int heap) throws IndexOutOfBoundsException {
        requireHeap(heap);
        solver.prepare(game);
        solver.solveBelow(withBits(game.state.position, heap, MOST_SIZE));
        int lost = 0;
        for (int counters = 0; counters <= MOST_SIZE; counters++) {
            if (!solver.isWonAt(withBits(game.state.position, heap, counters))) {
                lost |= 1 << counters;
            }
        }
        return lost;
    }

    public int lostBelow() {
        solvePosition();
        return solver.countLostBelow(game.state.position);
    }

    public int played(int index, int what)
            throws IndexOutOfBoundsException, IllegalArgumentException {
        if (index < 0 || index >= game.state.playedCount) {
            throw new IndexOutOfBoundsException("there is no such move in the record");
        }
        if (what < 0 || what > 3) {
            throw new IllegalArgumentException("what is out of range");
        }
        return describe(game.state.playedAt(index), what);
    }

    private void requireHeap(int heap) {
        if (heap < 0 || heap >= game.state.heaps) {
            throw new IndexOutOfBoundsException("there is no such heap");
        }
    }

    private int countersOf(int heap) {
        return bitsOf(game.state.position, heap);
    }

    private void solvePosition() {
        solver.prepare(game);
        solver.solveBelow(game.state.position);
    }

    private int listMoves() {
        solver.prepare(game);
        return solver.listNext(game.state.position);
    }

    // ---- changes

    public int take(int heap, int amount)
            throws IndexOutOfBoundsException, IllegalArgumentException {
        requireHeap(heap);
        if (!game.ruleOfHeap(heap).allows(countersOf(heap), amount)) {
            throw new IllegalArgumentException("the rule does not allow the amount");
        }
        if (isRecordFull()) {
            return NONE;
        }
        playMove(withBits(0, heap, amount));
        return countersOf(heap);
    }

    public int takeBoth(int heap, int other, int amount)
            throws IndexOutOfBoundsException, IllegalArgumentException {
        requireHeap(heap);
        requireHeap(other);
        if (heap == other) {
            throw new IllegalArgumentException("both heaps are the same");
        }
        if (amount < 1 || amount > MOST_SIZE || (game.shared >> amount & 1) == 0) {
            throw new IllegalArgumentException("the amount is no shared one");
        }
        if (countersOf(heap) < amount || countersOf(other) < amount) {
            throw new IllegalArgumentException("a heap has fewer counters");
        }
        if (isRecordFull()) {
            return NONE;
        }
        playMove(withBits(withBits(0, heap, amount), other, amount));
        return countersOfAll();
    }

    public int pass() throws IllegalStateException {
        if (passesOf(game.state.position) == 0 || listMoves() == 0) {
            throw new IllegalStateException("the pass is not a move");
        }
        if (isRecordFull()) {
            return NONE;
        }
        playMove(PASS);
        return passesOf(game.state.position);
    }

    public int play() throws IllegalStateException {
        solvePosition();
        int found = findBest();
        if (found == NONE) {
            throw new IllegalStateException("the position has no move");
        }
        if (isRecordFull()) {
            return NONE;
        }
        playMove(game.state.position - solver.nextAt(found));
        return found;
    }

    public int setSize(int heap, int size)
            throws IndexOutOfBoundsException, IllegalArgumentException {
        requireHeap(heap);
        requireSize(size);
        history.remember(game.state);
        int previous = countersOf(heap);
        game.state.position = withBits(game.state.position, heap, size);
        return previous;
    }

    public int setPasses(int passes) throws IllegalArgumentException {
        if (passes < 0 || passes > MOST_PASSES) {
            throw new IllegalArgumentException("passes is out of range");
        }
        history.remember(game.state);
        int previous = passesOf(game.state.position);
        game.state.position += (passes - previous) * PASS;
        return previous;
    }

    public boolean setMisere(boolean misere) {
        history.remember(game.state);
        boolean previous = game.state.misere;
        game.state.misere = misere;
        return previous;
    }

    public int addHeap(int rule, int size)
            throws IndexOutOfBoundsException, IllegalArgumentException, IllegalStateException {
        requireRule(rule);
        requireSize(size);
        if (game.state.heaps >= MOST_HEAPS) {
            throw new IllegalStateException("there are 4 heaps");
        }
        history.remember(game.state);
        return game.state.addLast(rule, size);
    }

    public int removeHeap(int heap) throws IndexOutOfBoundsException {
        requireHeap(heap);
        history.remember(game.state);
        game.state.dropHeap(heap);
        return game.state.heaps;
    }

    private static void requireSize(int size) {
        if (size < 0 || size > MOST_SIZE) {
            throw new IllegalArgumentException("size is out of range");
        }
    }

    private boolean isRecordFull() {
        return game.state.playedCount >= MOST_PLAYED;
    }

    private void playMove(int move) {
        history.remember(game.state);
        game.state.position -= move;
        game.state.addPlayed(move);
    }

    private int countersOfAll() {
        int sum = 0;
        for (int heap = 0; heap < game.state.heaps; heap++) {
            sum += countersOf(heap);
        }
        return sum;
    }

    // ---- undo, snapshots

    public int undo() {
        if (history.count == 0) {
            return NONE;
        }
        history.goBack(game.state);
        return history.count;
    }

    public boolean saveSnapshot(int slot) throws IllegalArgumentException {
        requireSlot(slot);
        boolean wasSaved = isSaved[slot];
        snapshots[slot].copyFrom(game.state);
        isSaved[slot] = true;
        return wasSaved;
    }

    public int restoreSnapshot(int slot) throws IllegalArgumentException, IllegalStateException {
        requireSlot(slot);
        if (!isSaved[slot]) {
            throw new IllegalStateException("the slot is empty");
        }
        game.state.copyFrom(snapshots[slot]);
        history.clear();
        return game.state.heaps;
    }

    private static void requireSlot(int slot) {
        if (slot < 0 || slot >= SLOTS) {
            throw new IllegalArgumentException("there is no such slot");
        }
    }

    public long checksum() {
        State state = game.state;
        long sum = game.ruleCount;
        for (int rule = 0; rule < game.ruleCount; rule++) {
            sum = 31 * sum + game.ruleAt(rule).ruleKind;
        }
        sum = 31 * sum + state.heaps;
        for (int heap = 0; heap < state.heaps; heap++) {
            sum = 31 * sum + bitsOf(state.heapRules, heap);
            sum = 31 * sum + countersOf(heap);
        }
        sum = 31 * sum + passesOf(state.position);
        sum = 31 * sum + game.shared;
        sum = 31 * sum + (state.misere ? 1 : 0);
        sum = 31 * sum + state.playedCount;
        for (int index = 0; index < state.playedCount; index++) {
            for (int what = 0; what <= 3; what++) {
                sum = 31 * sum + describe(state.playedAt(index), what);
            }
        }
        return sum;
    }

    // ---- rows of four bits, one for each heap

    private static int bitsOf(int row, int heap) {
        return row >> 4 * heap & 15;
    }

    private static int withBits(int row, int heap, int bits) {
        return row & ~(15 << 4 * heap) | bits << 4 * heap;
    }

    // the higher heaps move one place down, since their numbers become 1 less
    private static int withoutBits(int row, int heap) {
        int lower = row & (1 << 4 * heap) - 1;
        int higher = (row & PASS - 1) >> 4 * (heap + 1);
        return row & -PASS | higher << 4 * heap | lower;
    }

    private static int passesOf(int position) {
        return position >> PASS_SHIFT;
    }

    // a move needs no record of its kind: the heaps in which it has bits tell it
    private static int describe(int move, int what) {
        int first = heapTakenFrom(move, 0);
        int second = first == NONE ? NONE : heapTakenFrom(move, first + 1);
        switch (what) {
            case 0: return first == NONE ? 2 : second == NONE ? 0 : 1;
            case 1: return first;
            case 2: return second;
            default: return first == NONE ? 0 : bitsOf(move, first);
        }
    }

    private static int heapTakenFrom(int move, int lowest) {
        for (int heap = lowest; heap < MOST_HEAPS; heap++) {
            if (bitsOf(move, heap) != 0) {
                return heap;
            }
        }
        return NONE;
    }

    /** The values are kept, since each is found from those of all smaller heaps. */
    private static final class Rule {
        long name;
        int ruleKind;
        long set;
        private final int[] values = new int[MOST_COUNTERS + 1];
        private final int[] lastWith = new int[MOST_COUNTERS + 1];

        boolean allows(int n, int amount) {
            if (amount < 1 || amount > n) {
                return false;
            }
            switch (ruleKind) {
                case TAKE: return amount <= MOST_AMOUNT && (set >> amount & 1) != 0;
                case DIVISORS: return amount < n && n % amount == 0;
                case HALF: return amount <= n / 2;
                case POWERS: return (amount & amount - 1) == 0;
                default: return isSquare(amount);
            }
        }

        private static boolean isSquare(int amount) {
            for (int root = 1; root <= MOST_COUNTERS && root * root <= amount; root++) {
                if (root * root == amount) {
                    return true;
                }
            }
            return false;
        }

        int countAmounts(int n) {
            int count = 0;
            for (int amount = 1; amount <= n; amount++) {
                if (allows(n, amount)) {
                    count++;
                }
            }
            return count;
        }

        int greatestAmount() {
            for (int amount = MOST_AMOUNT; amount > 0; amount--) {
                if ((set >> amount & 1) != 0) {
                    return amount;
                }
            }
            return 0;
        }

        int valueOf(int n) {
            return n >= 0 && n <= MOST_COUNTERS ? values[n] : NONE;
        }

        void fillValues() {
            Arrays.fill(lastWith, NONE);
            for (int n = 0; n <= MOST_COUNTERS; n++) {
                for (int amount = 1; amount <= n; amount++) {
                    if (allows(n, amount)) {
                        noteValue(valueOf(n - amount), n);
                    }
                }
                values[n] = leastWithout(n);
            }
        }

        private void noteValue(int value, int n) {
            if (value >= 0 && value < lastWith.length) {
                lastWith[value] = n;
            }
        }

        private int leastWithout(int n) {
            int least = 0;
            while (least < lastWith.length && lastWith[least] == n) {
                least++;
            }
            return least;
        }

        int periodUpTo(int last) {
            for (int step = 1; 2 * step <= last + 1; step++) {
                if (startOfStep(step, last) + 2 * step <= last + 1) {
                    return step;
                }
            }
            return NONE;
        }

        int startOfStep(int step, int last) {
            int first = last - step + 1;
            // the equal values have to reach up to the last one, so the way goes down from there
            while (first > 0 && valueOf(first - 1) == valueOf(first - 1 + step)) {
                first--;
            }
            return first;
        }
    }

    /** Everything that changes can change, apart from the rest so that undo and snapshots copy this alone. */
    private static final class State {
        int heaps;
        int heapRules;
        int position;
        boolean misere;
        int playedCount;
        private final int[] playedMoves = new int[MOST_PLAYED];

        void clear() {
            heaps = 0;
            heapRules = 0;
            position = 0;
            misere = false;
            playedCount = 0;
        }

        void copyFrom(State other) {
            heaps = other.heaps;
            heapRules = other.heapRules;
            position = other.position;
            misere = other.misere;
            playedCount = other.playedCount;
            System.arraycopy(other.playedMoves, 0, playedMoves, 0, MOST_PLAYED);
        }

        int addLast(int rule, int counters) {
            heapRules = withBits(heapRules, heaps, rule);
            position = withBits(position, heaps, counters);
            heaps++;
            return heaps - 1;
        }

        void dropHeap(int heap) {
            heapRules = withoutBits(heapRules, heap);
            position = withoutBits(position, heap);
            heaps--;
        }

        void addPlayed(int move) {
            if (playedCount >= 0 && playedCount < MOST_PLAYED) {
                playedMoves[playedCount] = move;
                playedCount++;
            }
        }

        int playedAt(int index) {
            return index >= 0 && index < MOST_PLAYED ? playedMoves[index] : 0;
        }
    }

    /** All that a text tells, in one object so that a text with an error leaves the present one as it is. */
    private static final class Game {
        private final Rule[] rules = new Rule[MOST_RULES];
        int ruleCount;
        int shared;
        final State state = new State();

        Game() {
            for (int rule = 0; rule < MOST_RULES; rule++) {
                rules[rule] = new Rule();
            }
        }

        void clear() {
            ruleCount = 0;
            shared = 0;
            state.clear();
        }

        Rule ruleAt(int rule) {
            return rules[Math.max(0, Math.min(rule, MOST_RULES - 1))];
        }

        Rule ruleOfHeap(int heap) {
            return ruleAt(bitsOf(state.heapRules, heap));
        }

        int ruleNamed(long name) {
            for (int rule = 0; rule < ruleCount; rule++) {
                if (ruleAt(rule).name == name) {
                    return rule;
                }
            }
            return NONE;
        }

        void addRule(long name, int kind, long set) {
            Rule added = ruleAt(ruleCount);
            added.name = name;
            added.ruleKind = kind;
            added.set = set;
            ruleCount++;
        }

        void fillValues() {
            for (int rule = 0; rule < ruleCount; rule++) {
                ruleAt(rule).fillValues();
            }
        }
    }

    /** The states before the latest changes, in a ring: the eleventh change takes the place of the first. */
    private static final class History {
        private final State[] states = new State[MOST_CHANGES];
        private int next = 0;
        int count = 0;

        History() {
            for (int index = 0; index < MOST_CHANGES; index++) {
                states[index] = new State();
            }
        }

        void clear() {
            count = 0;
        }

        void remember(State state) {
            stateAt(next).copyFrom(state);
            next = (next + 1) % MOST_CHANGES;
            count = Math.min(count + 1, MOST_CHANGES);
        }

        void goBack(State state) {
            next = (next + MOST_CHANGES - 1) % MOST_CHANGES;
            count--;
            state.copyFrom(stateAt(next));
        }

        private State stateAt(int index) {
            return states[Math.max(0, Math.min(index, MOST_CHANGES - 1))];
        }
    }

    /**
     * A table of what is found out about positions. It serves all positions that differ only in
     * counters and passes, and holds with each position all that have no more of either.
     */
    private static final class Solver {
        private static final int UNKNOWN = 0;
        private static final int STAMP_SHIFT = 13;
        private static final int WON = 1 << 12;
        private static final int LENGTH_SHIFT = 6;
        // no game takes more than 63 moves (60 counters, 3 passes), so values and lengths are below 64
        private static final int SMALL = 63;
        private static final int NO_LENGTH = 64;
        // 8 amounts of each heap (of the take rule; up to 15 counters the other kinds have fewer),
        // 8 shared ones of each of the 6 pairs, and the pass
        private static final int MOST_MOVES = 81;

        private final int[] table = new int[POSITIONS];
        private final int[] allowed = new int[MOST_HEAPS * (MOST_SIZE + 1)];
        private final int[] next = new int[MOST_MOVES];
        private int nextCount;
        private int preparedFor = NONE;
        // what bears an older stamp was found out for other rules of heaps or the other ending;
        // in the 512 calls of an object's life no stamp comes twice
        private int stamp = 0;
        private int heaps;
        private int shared;
        private boolean misere;

        void forget() {
            preparedFor = NONE;
        }

        void prepare(Game game) {
            State state = game.state;
            int wanted = state.heapRules | state.heaps << 16 | (state.misere ? 1 << 20 : 0);
            if (wanted == preparedFor) {
                return;
            }
            preparedFor = wanted;
            stamp++;
            heaps = state.heaps;
            shared = game.shared;
            misere = state.misere;
            for (int heap = 0; heap < MOST_HEAPS; heap++) {
                fillAllowed(heap, game.ruleOfHeap(heap));
            }
        }

        private void fillAllowed(int heap, Rule rule) {
            for (int counters = 0; counters <= MOST_SIZE; counters++) {
                int set = 0;
                for (int amount = 1; amount <= counters; amount++) {
                    if (rule.allows(counters, amount)) {
                        set |= 1 << amount;
                    }
                }
                allowed[heap * (MOST_SIZE + 1) + counters] = set;
            }
        }

        // the order is that of the document, since the numbers of moves depend on it
        int listNext(int position) {
            nextCount = 0;
            for (int heap = 0; heap < heaps; heap++) {
                addTakes(position, heap);
            }
            for (int first = 0; first < heaps; first++) {
                for (int second = first + 1; second < heaps; second++) {
                    addShared(position, first, second);
                }
            }
            if (nextCount > 0 && position >= PASS) {
                addNext(position - PASS);
            }
            return nextCount;
        }

        private void addTakes(int position, int heap) {
            int counters = bitsOf(position, heap);
            int row = heap * (MOST_SIZE + 1) + counters;
            int set = row >= 0 && row < allowed.length ? allowed[row] : 0;
            for (int amount = 1; amount <= counters; amount++) {
                if ((set >> amount & 1) != 0) {
                    addNext(position - (amount << 4 * heap));
                }
            }
        }

        private void addShared(int position, int first, int second) {
            if (shared == 0) {
                return;
            }
            int both = (1 << 4 * first) + (1 << 4 * second);
            int most = Math.min(bitsOf(position, first), bitsOf(position, second));
            for (int amount = 1; amount <= most; amount++) {
                if ((shared >> amount & 1) != 0) {
                    addNext(position - amount * both);
                }
            }
        }

        private void addNext(int position) {
            if (nextCount >= 0 && nextCount < next.length) {
                next[nextCount] = position;
                nextCount++;
            }
        }

        int nextAt(int index) {
            return index >= 0 && index < next.length ? next[index] : 0;
        }

        void solveBelow(int top) {
            if (foundAt(top) != UNKNOWN) {
                return;
            }
            int position = 0;
            for (int left = (passesOf(top) + 1) * countHeapsBelow(top); left > 0; left--) {
                if (foundAt(position) == UNKNOWN) {
                    keep(position, solve(position));
                }
                position = followingBelow(position, top);
            }
        }

        private static int countHeapsBelow(int top) {
            int count = 1;
            for (int heap = 0; heap < MOST_HEAPS; heap++) {
                count *= bitsOf(top, heap) + 1;
            }
            return count;
        }

        // counts on like a number whose digits are the heaps, and whose overflow is one more pass
        private static int followingBelow(int position, int top) {
            int rest = position;
            for (int heap = 0; heap < MOST_HEAPS; heap++) {
                if (bitsOf(rest, heap) < bitsOf(top, heap)) {
                    return rest + (1 << 4 * heap);
                }
                rest = withBits(rest, heap, 0);
            }
            return rest + PASS;
        }

        private int solve(int position) {
            int count = listNext(position);
            long values = 0;
            int leastLost = NO_LENGTH;
            int most = 0;
            for (int index = 0; index < count; index++) {
                int found = foundAt(nextAt(index));
                int foundLength = found >> LENGTH_SHIFT & SMALL;
                values |= 1L << (found & SMALL);
                if ((found & WON) == 0) {
                    leastLost = Math.min(leastLost, foundLength);
                }
                most = Math.max(most, foundLength);
            }
            if (count == 0) {
                return misere ? WON : 0;
            }
            boolean isWonHere = leastLost < NO_LENGTH;
            int lengthHere = 1 + (isWonHere ? leastLost : most);
            return (isWonHere ? WON : 0) | lengthHere << LENGTH_SHIFT | leastOutside(values);
        }

        private static int leastOutside(long set) {
            int least = 0;
            while (least < SMALL && (set >> least & 1) != 0) {
                least++;
            }
            return least;
        }

        private void keep(int position, int found) {
            if (position >= 0 && position < table.length) {
                table[position] = stamp << STAMP_SHIFT | found;
            }
        }

        private int foundAt(int position) {
            int found = position >= 0 && position < table.length ? table[position] : UNKNOWN;
            return found >> STAMP_SHIFT == stamp ? found : UNKNOWN;
        }

        int valueAt(int position) {
            return foundAt(position) & SMALL;
        }

        boolean isWonAt(int position) {
            return (foundAt(position) & WON) != 0;
        }

        int lengthAt(int position) {
            return foundAt(position) >> LENGTH_SHIFT & SMALL;
        }

        int countLostBelow(int top) {
            int count = 0;
            // the passes stay those of the top: only the heaps are counted through
            int position = top & -PASS;
            for (int left = countHeapsBelow(top); left > 0; left--) {
                if (!isWonAt(position)) {
                    count++;
                }
                position = followingBelow(position, top);
            }
            return count;
        }
    }

    /** A text is read token by token, since the first error ends its reading. */
    private static final class TextReader {
        private static final int SYNTAX = 1;
        private static final int REPEATED = 2;
        private static final int RANGE = 3;
        private static final int UNKNOWN = 4;
        private static final int TOO_MANY = 5;

        private static final int END = 0;
        private static final int WORD = 1;
        private static final int DIGITS = 2;
        private static final int SEMICOLON = 3;
        private static final int OTHER = 4;

        private static final int MOST_LETTERS = 8;
        private static final int MOST_DIGITS = 2;
        private static final int MOST_AMOUNTS = 8;

        private final byte[] bytes = new byte[MOST_BYTES];
        int inputLength = 0;
        private int limit;
        private int tokenStart;
        private int tokenEnd;
        private int token;
        Game draft = new Game();
        private boolean hasPasses;
        private long amountSet;
        int failure;

        void addBytes(int four) {
            for (int shift = 24; shift >= 0 && inputLength < bytes.length; shift -= 8) {
                bytes[inputLength] = (byte) (four >> shift);
                inputLength++;
            }
        }

        boolean readText(int textLength) {
            limit = Math.min(textLength, bytes.length);
            tokenEnd = 0;
            draft.clear();
            hasPasses = false;
            for (int statements = 0; statements <= limit; statements++) {
                nextToken();
                if (token == END) {
                    return true;
                }
                if (!readStatement()) {
                    return false;
                }
                if (token != SEMICOLON) {
                    return fail(SYNTAX);
                }
            }
            return true;
        }

        // each statement is read one token beyond its end, since only that token ends a list of amounts
        private boolean readStatement() {
            if (isWord("rule")) {
                return readRule();
            }
            if (isWord("heap")) {
                return readHeap();
            }
            if (isWord("shared")) {
                return readShared();
            }
            if (isWord("passes")) {
                return readPasses();
            }
            if (isWord("misere")) {
                return readMisere();
            }
            return fail(SYNTAX);
        }

        private boolean readRule() {
            if (draft.ruleCount >= MOST_RULES) {
                return fail(TOO_MANY);
            }
            nextToken();
            if (!isName()) {
                return fail(SYNTAX);
            }
            long name = nameOfToken();
            if (draft.ruleNamed(name) != NONE) {
                return fail(REPEATED);
            }
            nextToken();
            int kind = kindOfToken();
            if (kind == NONE) {
                return fail(SYNTAX);
            }
            nextToken();
            amountSet = 0;
            if (kind == TAKE && !readAmounts(MOST_AMOUNT)) {
                return false;
            }
            draft.addRule(name, kind, amountSet);
            return true;
        }

        private boolean readHeap() {
            if (draft.state.heaps >= MOST_HEAPS) {
                return fail(TOO_MANY);
            }
            nextToken();
            if (!isName()) {
                return fail(SYNTAX);
            }
            int rule = draft.ruleNamed(nameOfToken());
            if (rule == NONE) {
                return fail(UNKNOWN);
            }
            nextToken();
            if (!isNumber()) {
                return fail(SYNTAX);
            }
            int counters = numberOfToken();
            if (counters > MOST_SIZE) {
                return fail(RANGE);
            }
            draft.state.addLast(rule, counters);
            nextToken();
            return true;
        }

        private boolean readShared() {
            if (draft.shared != 0) {
                return fail(REPEATED);
            }
            nextToken();
            if (!readAmounts(MOST_SIZE)) {
                return false;
            }
            draft.shared = (int) amountSet;
            return true;
        }

        private boolean readPasses() {
            if (hasPasses) {
                return fail(REPEATED);
            }
            hasPasses = true;
            nextToken();
            if (!isNumber()) {
                return fail(SYNTAX);
            }
            int passes = numberOfToken();
            if (passes > MOST_PASSES) {
                return fail(RANGE);
            }
            draft.state.position += passes * PASS;
            nextToken();
            return true;
        }

        private boolean readMisere() {
            if (draft.state.misere) {
                return fail(REPEATED);
            }
            draft.state.misere = true;
            nextToken();
            return true;
        }

        private boolean readAmounts(int most) {
            amountSet = 0;
            for (int count = 0; count <= MOST_AMOUNTS; count++) {
                if (count > 0 && token != DIGITS) {
                    return true;
                }
                if (!isNumber()) {
                    return fail(SYNTAX);
                }
                int amount = numberOfToken();
                // one that is out of range cannot stand there already: it would have ended the reading
                if (amount < 1 || amount > most) {
                    return fail(RANGE);
                }
                if ((amountSet >> amount & 1) != 0) {
                    return fail(REPEATED);
                }
                if (count == MOST_AMOUNTS) {
                    return fail(TOO_MANY);
                }
                amountSet |= 1L << amount;
                nextToken();
            }
            return true;
        }

        private boolean fail(int errorKind) {
            failure = -2 - (8 * tokenStart + errorKind);
            return false;
        }

        private void nextToken() {
            int at = tokenEnd;
            while (at < limit && byteAt(at) == ' ') {
                at++;
            }
            tokenStart = at;
            token = kindOfByte(at);
            if (token != END) {
                at++;
            }
            if (token == WORD || token == DIGITS) {
                while (at < limit && kindOfByte(at) == token) {
                    at++;
                }
            }
            tokenEnd = at;
        }

        private int kindOfByte(int at) {
            if (at < 0 || at >= limit || at >= bytes.length) {
                return END;
            }
            int found = bytes[at];
            if (found >= 'a' && found <= 'z') {
                return WORD;
            }
            if (found >= '0' && found <= '9') {
                return DIGITS;
            }
            return found == ';' ? SEMICOLON : OTHER;
        }

        private int byteAt(int at) {
            return at >= 0 && at < bytes.length ? bytes[at] : 0;
        }

        private int tokenLength() {
            return tokenEnd - tokenStart;
        }

        private boolean isWord(String word) {
            if (token != WORD || tokenLength() != word.length()) {
                return false;
            }
            for (int index = 0; index < word.length(); index++) {
                if (byteAt(tokenStart + index) != word.charAt(index)) {
                    return false;
                }
            }
            return true;
        }

        private boolean isName() {
            return token == WORD && tokenLength() <= MOST_LETTERS;
        }

        // a name fits into a long, a letter into a byte, so no text has to be kept
        private long nameOfToken() {
            long name = 0;
            for (int at = tokenStart; at < tokenEnd; at++) {
                name = name << 8 | byteAt(at);
            }
            return name;
        }

        private boolean isNumber() {
            return token == DIGITS && tokenLength() <= MOST_DIGITS;
        }

        private int numberOfToken() {
            int number = 0;
            for (int at = tokenStart; at < tokenEnd; at++) {
                number = 10 * number + byteAt(at) - '0';
            }
            return number;
        }

        private int kindOfToken() {
            if (isWord("take")) {
                return TAKE;
            }
            if (isWord("divisors")) {
                return DIVISORS;
            }
            if (isWord("half")) {
                return HALF;
            }
            if (isWord("powers")) {
                return POWERS;
            }
            return isWord("squares") ? SQUARES : NONE;
        }
    }
}
