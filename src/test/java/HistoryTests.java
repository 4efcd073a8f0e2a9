/** Promises 36 to 39: undo, snapshots, checksum. */
public final class HistoryTests {
    private static final Check CHECK = new Check();
    private static final String TEXT =
            "rule a take 1 2;rule b half;heap a 9;heap b 8;heap a 7;shared 3;passes 2;";

    private HistoryTests() {
    }

    public static void main(String[] args) {
        undoOfEachChange();
        tenChanges();
        undoneAndPlayedAgain();
        inputIsNotUndone();
        snapshots();
        snapshotHoldsTheRecord();
        wrongSlots();
        checksum();
        CHECK.end();
    }

    private static void undoOfEachChange() {
        HeapGames g = Texts.gameOf(TEXT);
        long[] sums = new long[10];
        for (int change = 0; change < 9; change++) {
            sums[change] = g.checksum();
            make(g, change);
            int done = change + 1;
            CHECK.due("after change " + change, done, () -> g.size(9));
        }
        for (int change = 8; change >= 0; change--) {
            int left = change;
            CHECK.due("undo of change " + change, left, () -> g.undo());
            CHECK.due("after undo of change " + change, sums[change], () -> g.checksum());
            CHECK.due("left after undo of change " + change, left, () -> g.size(9));
        }
        CHECK.due("nothing to undo", -1, () -> g.undo());
        CHECK.due("nothing happens then", sums[0], () -> g.checksum());
    }

    private static void make(HeapGames g, int change) {
        switch (change) {
            case 0: g.take(0, 2); break;
            case 1: g.takeBoth(2, 1, 3); break;
            case 2: g.pass(); break;
            case 3: g.play(); break;
            case 4: g.setSize(1, 15); break;
            case 5: g.setPasses(3); break;
            case 6: g.setMisere(true); break;
            case 7: g.removeHeap(0); break;
            default: g.addHeap(1, 6); break;
        }
    }

    private static void tenChanges() {
        HeapGames g = Texts.gameOf(TEXT);
        for (int size = 0; size <= 13; size++) {
            g.setSize(0, size);
        }
        CHECK.due("ten of fourteen", 10, () -> g.size(9));
        for (int left = 9; left >= 0; left--) {
            int now = left;
            CHECK.due("undo to " + left, now, () -> g.undo());
            CHECK.due("the counters then", now + 3, () -> g.heap(0, 1));
        }
        CHECK.due("the eleventh", -1, () -> g.undo());
        CHECK.due("the counters stay", 3, () -> g.heap(0, 1));
        g.setMisere(false);
        g.setMisere(false);
        CHECK.due("changes that alter nothing", 1, () -> g.undo());
        CHECK.due("count too", 0, () -> g.undo());
        CHECK.due("and are gone", -1, () -> g.undo());
    }

    private static void undoneAndPlayedAgain() {
        HeapGames g = Texts.gameOf(TEXT);
        g.take(0, 1);
        g.take(0, 2);
        g.undo();
        CHECK.due("the record after undo", 1, () -> g.size(6));
        CHECK.dueIndex("the move is gone", () -> g.played(1, 0));
        g.take(2, 1);
        CHECK.due("another move", 2, () -> g.played(1, 1));
        CHECK.due("the first one", 1, () -> g.played(0, 3));
        g.undo();
        g.undo();
        CHECK.due("the record is empty", 0, () -> g.size(6));
        CHECK.due("values after an undone removal", 1 ^ 0 ^ 4, () -> {
            g.setSize(0, 0);
            g.setSize(2, 1);
            g.nimSum();
            g.removeHeap(2);
            g.positionValue();
            g.undo();
            return g.nimSum();
        });
    }

    private static void inputIsNotUndone() {
        HeapGames g = Texts.gameOf(TEXT);
        g.setPasses(1);
        g.append(0, 0, 0, 0, 0);
        g.undo();
        CHECK.due("the buffer after undo", 20, () -> g.size(5));
        g.saveSnapshot(0);
        g.append(0, 0, 0, 0, 0);
        g.restoreSnapshot(0);
        CHECK.due("the buffer after a restore", 40, () -> g.size(5));
    }

    private static void snapshots() {
        HeapGames g = Texts.gameOf(TEXT);
        CHECK.due("saveSnapshot(0)", false, () -> g.saveSnapshot(0));
        CHECK.dueState("the other slot is empty", () -> g.restoreSnapshot(1));
        CHECK.due("no change", 0, () -> g.size(9));
        long first = g.checksum();
        for (int change = 0; change < 9; change++) {
            make(g, change);
        }
        long second = g.checksum();
        CHECK.due("saveSnapshot(1)", false, () -> g.saveSnapshot(1));
        CHECK.due("saving keeps the history", 9, () -> g.size(9));
        g.removeHeap(0);
        CHECK.due("restoreSnapshot(0)", 3, () -> g.restoreSnapshot(0));
        CHECK.due("the object then", first, () -> g.checksum());
        CHECK.due("the history is cleared", 0, () -> g.size(9));
        CHECK.due("undo()", -1, () -> g.undo());
        CHECK.due("restoreSnapshot(1)", 3, () -> g.restoreSnapshot(1));
        CHECK.due("the object then", second, () -> g.checksum());
        g.setPasses(0);
        g.removeHeap(0);
        CHECK.due("it stays saved", 3, () -> g.restoreSnapshot(1));
        CHECK.due("unchanged", second, () -> g.checksum());
        g.removeHeap(0);
        long third = g.checksum();
        CHECK.due("saveSnapshot(1) in place of it", true, () -> g.saveSnapshot(1));
        g.removeHeap(0);
        CHECK.due("restoreSnapshot(1)", 2, () -> g.restoreSnapshot(1));
        CHECK.due("the later one", third, () -> g.checksum());
        CHECK.due("the other slot still holds the first", 3, () -> g.restoreSnapshot(0));
        CHECK.due("unchanged", first, () -> g.checksum());
        g.setPasses(3);
        CHECK.due("a change after it can be undone", 0, () -> g.undo());
        CHECK.due("back at the snapshot", first, () -> g.checksum());
    }

    private static void snapshotHoldsTheRecord() {
        HeapGames g = Texts.gameOf(TEXT);
        g.take(0, 1);
        g.take(2, 2);
        g.saveSnapshot(0);
        g.undo();
        g.undo();
        g.takeBoth(0, 1, 3);
        CHECK.due("restoreSnapshot(0)", 3, () -> g.restoreSnapshot(0));
        CHECK.due("its moves", "0 0 -1 1 0 2 -1 2", () -> record(g));
        CHECK.due("the player who is to move", 0, () -> g.size(7));
    }

    private static String record(HeapGames g) {
        StringBuilder text = new StringBuilder();
        for (int number = 0; number < 4 * g.size(6); number++) {
            text.append(number == 0 ? "" : " ").append(g.played(number / 4, number % 4));
        }
        return text.toString();
    }

    private static void wrongSlots() {
        HeapGames g = Texts.gameOf(TEXT);
        for (int slot : new int[] {-1, 2, Integer.MIN_VALUE, Integer.MAX_VALUE}) {
            CHECK.dueArgument("saveSnapshot(" + slot + ")", () -> g.saveSnapshot(slot));
            CHECK.dueArgument("restoreSnapshot(" + slot + ")", () -> g.restoreSnapshot(slot));
        }
        g.setPasses(1);
        CHECK.dueState("restoreSnapshot(0)", () -> g.restoreSnapshot(0));
        CHECK.due("the history stays", 1, () -> g.size(9));
    }

    private static void checksum() {
        HeapGames g = Texts.gameOf(TEXT + "misere;");
        CHECK.due("of a position", sumOf(2, 0, 2, 3, 0, 9, 1, 8, 0, 7, 2, 8, 1, 0), () -> g.checksum());
        g.take(2, 2);
        g.takeBoth(1, 0, 3);
        g.pass();
        CHECK.due("of a game", sumOf(2, 0, 2, 3, 0, 6, 1, 5, 0, 5, 1, 8, 1, 3, 0, 2, -1, 2, 1, 0, 1, 3, 2, -1, -1, 0),
                () -> g.checksum());
        g.append(1, 2, 3, 4, 5);
        g.saveSnapshot(0);
        CHECK.due("the buffer and the slots do not count",
                sumOf(2, 0, 2, 3, 0, 6, 1, 5, 0, 5, 1, 8, 1, 3, 0, 2, -1, 2, 1, 0, 1, 3, 2, -1, -1, 0), () -> g.checksum());
    }

    private static long sumOf(int... numbers) {
        long sum = 0;
        for (int number : numbers) {
            sum = 31 * sum + number;
        }
        return sum;
    }
}
