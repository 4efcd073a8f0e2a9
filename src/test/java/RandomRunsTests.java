import java.util.function.Supplier;

/** Long runs of calls, each answered by the class and by the reference; the numbers are the same in every run. */
public final class RandomRunsTests {
    private static final int RUNS = 600;
    private static final int CALLS = 512;
    // a text of at most 400 bytes takes 20 calls and parse, and a run ends with 10 calls of size
    private static final int CALLS_OF_A_STEP = 22;
    private static final int CALLS_AT_THE_END = 10;
    private static final String[] PIECES = {
        "rule", "heap", "shared", "passes", "misere", "take", "divisors", "half", "powers", "squares",
        ";", ";", ";", " ", " ", "a", "b", "abcdefgh", "abcdefghi", "0", "1", "3", "7", "15", "16", "60", "61",
        "00", "07", "99", "100", "A", "#", "\u00e9", "\u0000", "\t",
    };

    private long seed;
    private final Check check = new Check();
    private HeapGames games;
    private Reference reference;
    private int most;
    private int calls;

    private RandomRunsTests() {
    }

    public static void main(String[] args) {
        RandomRunsTests tests = new RandomRunsTests();
        for (int run = 0; run < RUNS; run++) {
            tests.run(run);
        }
        tests.check.end();
    }

    private int below(int bound) {
        seed = seed * 6364136223846793005L + 1442695040888963407L;
        return (int) ((seed >>> 33) % bound);
    }

    private void run(int run) {
        seed = 7919L * run + 1;
        games = new HeapGames();
        reference = new Reference();
        // large positions cost the reference much time, so few runs have them
        most = run % 40 == 0 ? 15 : run % 4 == 0 ? 9 : 5;
        calls = 0;
        readSomeText(run);
        while (calls + CALLS_OF_A_STEP + CALLS_AT_THE_END <= CALLS) {
            if (below(60) == 0) {
                readSomeText(run);
            } else {
                callOnce(run);
            }
            same(run, "checksum()", () -> games.checksum(), () -> reference.checksum());
        }
        for (int what = 0; what < 10; what++) {
            int asked = what;
            same(run, "size(" + what + ")", () -> games.size(asked), () -> reference.size(asked));
        }
    }

    private void same(int run, String call, Supplier<Object> got, Supplier<Object> want) {
        calls++;
        check.due("run " + run + ": " + call, Check.answerOf(want), got);
    }

    private void readSomeText(int run) {
        String text = below(4) == 0 ? jumbledText() : validText();
        if (below(5) == 0 && !text.isEmpty()) {
            text = damaged(text);
        }
        byte[] bytes = text.getBytes(java.nio.charset.StandardCharsets.ISO_8859_1);
        for (int at = 0; at < bytes.length; at += 20) {
            append(run, bytes, at);
        }
        int length = text.length();
        same(run, "parse of '" + text + "'", () -> games.parse(length), () -> reference.parse(length));
    }

    private void append(int run, byte[] bytes, int at) {
        int a = Texts.fourAt(bytes, at);
        int b = Texts.fourAt(bytes, at + 4);
        int c = Texts.fourAt(bytes, at + 8);
        int d = Texts.fourAt(bytes, at + 12);
        int e = Texts.fourAt(bytes, at + 16);
        same(run, "append", () -> games.append(a, b, c, d, e), () -> reference.append(a, b, c, d, e));
    }

    private String jumbledText() {
        StringBuilder text = new StringBuilder();
        for (int i = below(40); i > 0; i--) {
            text.append(PIECES[below(PIECES.length)]);
            text.append(below(3) == 0 ? "" : " ");
        }
        return text.length() > 380 ? text.substring(0, 380) : text.toString();
    }

    private String damaged(String text) {
        int at = below(text.length());
        String piece = PIECES[below(PIECES.length)];
        switch (below(3)) {
            case 0: return text.substring(0, at);
            case 1: return text.substring(0, at) + piece + text.substring(at);
            default: return text.substring(0, at) + text.substring(at + 1);
        }
    }

    private String validText() {
        StringBuilder text = new StringBuilder();
        int rules = 1 + below(below(5) == 0 ? 7 : 4);
        for (int rule = 0; rule < rules; rule++) {
            text.append("rule ").append((char) ('a' + rule)).append(' ').append(kindText()).append(";");
        }
        int heaps = below(below(6) == 0 ? 6 : 5);
        for (int heap = 0; heap < heaps; heap++) {
            text.append("heap ").append((char) ('a' + below(rules))).append(below(most + 1)).append("; ");
        }
        if (below(2) == 0) {
            text.append("shared").append(amountsText(below(3) == 0 ? 15 : 4)).append(";");
        }
        if (below(2) == 0) {
            text.append(" passes ").append(below(4)).append(" ;");
        }
        if (below(3) == 0) {
            text.append("misere;");
        }
        return text.length() > 380 ? text.substring(0, 380) : text.toString();
    }

    private String kindText() {
        switch (below(7)) {
            case 0: return "divisors";
            case 1: return "half";
            case 2: return "powers";
            case 3: return "squares";
            default: return "take" + amountsText(below(3) == 0 ? 60 : 8);
        }
    }

    private String amountsText(int mostOfThem) {
        StringBuilder text = new StringBuilder();
        java.util.TreeSet<Integer> told = new java.util.TreeSet<>();
        for (int count = 1 + below(below(8) == 0 ? 9 : 4); count > 0; count--) {
            int amount = 1 + below(mostOfThem);
            if (told.add(amount) || below(30) == 0) {
                text.append(' ').append(amount);
            }
        }
        return text.toString();
    }

    private int edgy(int mostUsual) {
        switch (below(40)) {
            case 0: return -1;
            case 1: return Integer.MIN_VALUE;
            case 2: return Integer.MAX_VALUE;
            case 3: return mostUsual + 1;
            default: return below(mostUsual + 1);
        }
    }

    private int counters() {
        return edgy(below(3) == 0 ? 300 : 40);
    }

    private void callOnce(int run) {
        int choice = below(5);
        if (choice == 0) {
            askRules(run);
        } else if (choice <= 2) {
            askPosition(run);
        } else {
            change(run);
        }
    }

    private void askRules(int run) {
        int rule = edgy(Math.max(0, reference.size(0) - 1));
        int n = counters();
        int amount = edgy(40);
        int index = edgy(5);
        String on = "(" + rule + ", " + n + ")";
        switch (below(10)) {
            case 0: same(run, "kind" + on, () -> games.kind(rule), () -> reference.kind(rule)); break;
            case 1: same(run, "mayTake" + on + amount, () -> games.mayTake(rule, n, amount), () -> reference.mayTake(rule, n, amount)); break;
            case 2: same(run, "amounts" + on, () -> games.amounts(rule, n), () -> reference.amounts(rule, n)); break;
            case 3: same(run, "value" + on, () -> games.value(rule, n), () -> reference.value(rule, n)); break;
            case 4: same(run, "heapWith" + amount + " " + index, () -> games.heapWith(rule, amount % 9, index), () -> reference.heapWith(rule, amount % 9, index)); break;
            case 5: same(run, "greatest" + on, () -> games.greatest(rule, n), () -> reference.greatest(rule, n)); break;
            case 6: same(run, "zeros" + on, () -> games.zeros(rule, n), () -> reference.zeros(rule, n)); break;
            case 7: same(run, "period" + on, () -> games.period(rule, n), () -> reference.period(rule, n)); break;
            case 8: same(run, "start" + on, () -> games.start(rule, n), () -> reference.start(rule, n)); break;
            default: same(run, "isProved" + on, () -> games.isProved(rule, n), () -> reference.isProved(rule, n)); break;
        }
    }

    private void askPosition(int run) {
        int heap = edgy(3);
        int what = edgy(10);
        int index = edgy(Math.max(0, reference.moves() - 1));
        String on = "(" + index + ", " + what + ")";
        switch (below(13)) {
            case 0: same(run, "heap(" + heap + ", " + what + ")", () -> games.heap(heap, what), () -> reference.heap(heap, what)); break;
            case 1: same(run, "nimSum()", () -> games.nimSum(), () -> reference.nimSum()); break;
            case 2: same(run, "positionValue()", () -> games.positionValue(), () -> reference.positionValue()); break;
            case 3: same(run, "isWon()", () -> games.isWon(), () -> reference.isWon()); break;
            case 4: same(run, "length()", () -> games.length(), () -> reference.length()); break;
            case 5: same(run, "moves()", () -> games.moves(), () -> reference.moves()); break;
            case 6: same(run, "winning()", () -> games.winning(), () -> reference.winning()); break;
            case 7: same(run, "best()", () -> games.best(), () -> reference.best()); break;
            case 8: same(run, "lostWith(" + heap + ")", () -> games.lostWith(heap), () -> reference.lostWith(heap)); break;
            case 9: same(run, "lostBelow()", () -> games.lostBelow(), () -> reference.lostBelow()); break;
            case 10: same(run, "size(" + what + ")", () -> games.size(what), () -> reference.size(what)); break;
            case 11: same(run, "played" + on, () -> games.played(index, what), () -> reference.played(index, what)); break;
            default: same(run, "move" + on, () -> games.move(index, what), () -> reference.move(index, what)); break;
        }
    }

    private void change(int run) {
        int heap = edgy(Math.max(0, reference.size(1) - 1));
        int other = edgy(3);
        int amount = edgy(below(4) == 0 ? 15 : 3);
        int size = edgy(most);
        int few = edgy(3);
        boolean misere = below(2) == 0;
        switch (below(18)) {
            case 0: case 1: same(run, "take(" + heap + ", " + amount + ")", () -> games.take(heap, amount), () -> reference.take(heap, amount)); break;
            case 2: case 3: same(run, "takeBoth(" + heap + ", " + other + ", " + amount + ")", () -> games.takeBoth(heap, other, amount), () -> reference.takeBoth(heap, other, amount)); break;
            case 4: case 5: same(run, "pass()", () -> games.pass(), () -> reference.pass()); break;
            case 6: case 7: case 8: same(run, "play()", () -> games.play(), () -> reference.play()); break;
            case 9: case 10: case 11: same(run, "setSize(" + heap + ", " + size + ")", () -> games.setSize(heap, size), () -> reference.setSize(heap, size)); break;
            case 12: same(run, "setPasses(" + few + ")", () -> games.setPasses(few), () -> reference.setPasses(few)); break;
            case 13: same(run, "setMisere(" + misere + ")", () -> games.setMisere(misere), () -> reference.setMisere(misere)); break;
            case 14: same(run, "addHeap(" + few + ", " + size + ")", () -> games.addHeap(few, size), () -> reference.addHeap(few, size)); break;
            case 15: same(run, "removeHeap(" + heap + ")", () -> games.removeHeap(heap), () -> reference.removeHeap(heap)); break;
            case 16: same(run, "undo()", () -> games.undo(), () -> reference.undo()); break;
            default: changeSlot(run, few % 3, misere); break;
        }
    }

    private void changeSlot(int run, int slot, boolean isSaving) {
        if (isSaving) {
            same(run, "saveSnapshot(" + slot + ")", () -> games.saveSnapshot(slot), () -> reference.saveSnapshot(slot));
        } else {
            same(run, "restoreSnapshot(" + slot + ")", () -> games.restoreSnapshot(slot), () -> reference.restoreSnapshot(slot));
        }
    }
}
