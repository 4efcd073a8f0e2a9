import java.math.BigInteger;
import java.util.ArrayList;
import java.util.List;

/** The sentences about undo, snapshots, the checksum and the life of an object: promises 36 to 39. */
public final class BoundaryHistoryTests {
    private static final Sentences DOC = new Sentences();
    private static final int[] NO_SLOTS = {-1, 2, Integer.MIN_VALUE, Integer.MAX_VALUE};
    private static final String TEXT =
            "rule a take 1 2;rule b half;heap a 9;heap b 8;heap a 7;shared 3;passes 2;";

    private BoundaryHistoryTests() {
    }

    public static void main(String[] args) {
        tenChanges();
        undo();
        saveSnapshot();
        restoreSnapshot();
        whatSnapshotsHold();
        checksum();
        lifeOfAnObject();
        DOC.end();
    }

    private static void makeAll(HeapGames g) {
        g.take(0, 2);
        g.takeBoth(2, 1, 3);
        g.pass();
        g.play();
        g.setSize(1, 15);
        g.setPasses(3);
        g.setMisere(true);
        g.removeHeap(0);
        g.addHeap(1, 6);
    }

    // ---- undo

    private static void tenChanges() {
        DOC.says("Changes", "The latest 10 changes can be undone", c -> {
            for (int changes = 9; changes <= 12; changes++) {
                HeapGames g = Texts.gameOf(TEXT);
                for (int size = 0; size < changes; size++) {
                    g.setSize(0, size);
                }
                int undone = 0;
                while (undone <= 20 && g.undo() != -1) {
                    undone++;
                }
                int due = Math.min(changes, 10);
                int count = undone;
                c.due("undone of " + changes, due, () -> count);
                int left = changes <= 10 ? 9 : changes - 11;
                c.due("the counters after them", left, () -> g.heap(0, 1));
            }
        });
        DOC.says("Changes", "the latest one first", c -> {
            HeapGames g = Texts.gameOf(TEXT);
            for (int size = 0; size <= 13; size++) {
                g.setSize(0, size);
            }
            for (int left = 9; left >= 0; left--) {
                int due = left;
                c.due("undo()", due, () -> g.undo());
                c.due("the counters", due + 3, () -> g.heap(0, 1));
            }
        });
    }

    private static void undo() {
        DOC.says("Promise 36", "Undoes the latest change that has not been undone", c -> {
            HeapGames g = Texts.gameOf(TEXT);
            g.setSize(0, 1);
            g.setSize(0, 2);
            g.undo();
            g.setSize(0, 3);
            g.setSize(0, 4);
            g.undo();
            c.due("back to 3", 3, () -> g.heap(0, 1));
            g.undo();
            c.due("back to 1", 1, () -> g.heap(0, 1));
            g.undo();
            c.due("back to 9", 9, () -> g.heap(0, 1));
            c.due("undo()", -1, () -> g.undo());
            c.due("still 9", 9, () -> g.heap(0, 1));
        });
        DOC.says("Promise 36", "The input buffer is not affected", c -> {
            HeapGames g = Texts.gameOf(TEXT);
            g.setPasses(1);
            Texts.append(g, "misere;");
            c.due("undo()", 0, () -> g.undo());
            c.due("size(5)", 20, () -> g.size(5));
            c.due("parse(7)", 0, () -> g.parse(7));
            c.due("size(4)", 1, () -> g.size(4));
        });
        DOC.says("Promise 36", "Returns the number of changes that can still be undone", c -> {
            HeapGames g = Texts.gameOf(TEXT);
            makeAll(g);
            for (int left = 8; left >= 0; left--) {
                int due = left;
                c.due("undo()", due, () -> g.undo());
                c.due("size(9)", due, () -> g.size(9));
            }
        });
        DOC.says("Promise 36", "NONE if there was none to undo", c -> {
            c.due("a new object", -1, () -> new HeapGames().undo());
            HeapGames g = Texts.gameOf(TEXT);
            String before = Sentences.sight(g);
            c.due("after a text", -1, () -> g.undo());
            c.due("again", -1, () -> g.undo());
            c.due("nothing changes", before, () -> Sentences.sight(g));
            g.setPasses(0);
            c.due("a later change", 1, () -> g.size(9));
            c.due("can be undone", 0, () -> g.undo());
        });
    }

    // ---- snapshots

    private static void saveSnapshot() {
        DOC.says("Promise 37", "Returns whether there was an earlier one", c -> {
            HeapGames g = Texts.gameOf(TEXT);
            c.due("slot 1 at first", false, () -> g.saveSnapshot(1));
            c.due("slot 0 at first", false, () -> g.saveSnapshot(0));
            c.due("slot 0 again", true, () -> g.saveSnapshot(0));
            g.restoreSnapshot(1);
            c.due("slot 1 after a restore", true, () -> g.saveSnapshot(1));
            g.undo();
            c.due("slot 1 after an undo", true, () -> g.saveSnapshot(1));
            c.due("a new object", false, () -> new HeapGames().saveSnapshot(0));
        });
        DOC.says("Promise 37", "in place of an earlier one", c -> {
            HeapGames g = Texts.gameOf(TEXT);
            g.saveSnapshot(0);
            g.setSize(0, 1);
            g.saveSnapshot(0);
            g.setSize(0, 2);
            g.restoreSnapshot(0);
            c.due("the later one", 1, () -> g.heap(0, 1));
        });
        DOC.says("Promise 37", "Throws IllegalArgumentException if slot is neither 0 nor 1", c -> {
            HeapGames g = Texts.gameOf(TEXT);
            for (int slot : NO_SLOTS) {
                c.dueArgument("saveSnapshot(" + slot + ")", () -> g.saveSnapshot(slot));
            }
        });
        DOC.says("Changes", "There are two snapshot slots, 0 and 1", c -> {
            HeapGames g = Texts.gameOf(TEXT);
            g.setSize(0, 1);
            g.saveSnapshot(0);
            g.setSize(0, 2);
            g.saveSnapshot(1);
            g.setSize(0, 3);
            g.restoreSnapshot(0);
            c.due("slot 0", 1, () -> g.heap(0, 1));
            g.restoreSnapshot(1);
            c.due("slot 1", 2, () -> g.heap(0, 1));
        });
        DOC.says("Changes", "saving is no change and keeps the undo history", c -> {
            HeapGames g = Texts.gameOf(TEXT);
            g.setSize(0, 1);
            g.saveSnapshot(0);
            c.due("size(9)", 1, () -> g.size(9));
            c.due("undo()", 0, () -> g.undo());
            c.due("back to 9", 9, () -> g.heap(0, 1));
            c.due("the snapshot is not undone", 3, () -> g.restoreSnapshot(0));
            c.due("it holds 1", 1, () -> g.heap(0, 1));
        });
    }

    private static void restoreSnapshot() {
        DOC.says("Promise 38", "Restores the snapshot of a slot, which stays saved", c -> {
            HeapGames g = Texts.gameOf(TEXT);
            long before = g.checksum();
            g.saveSnapshot(1);
            for (int time = 0; time < 3; time++) {
                makeAll(g);
                c.due("restoreSnapshot(1)", 3, () -> g.restoreSnapshot(1));
                c.due("checksum()", before, () -> g.checksum());
            }
            c.due("saveSnapshot(1)", true, () -> g.saveSnapshot(1));
        });
        DOC.says("Promise 38", "and clears the undo history", c -> {
            HeapGames g = Texts.gameOf(TEXT);
            g.saveSnapshot(0);
            makeAll(g);
            g.restoreSnapshot(0);
            c.due("size(9)", 0, () -> g.size(9));
            c.due("undo()", -1, () -> g.undo());
            g.setSize(0, 1);
            c.due("a later change is undone", 0, () -> g.undo());
            c.due("and no earlier one", -1, () -> g.undo());
            c.due("the counters", 9, () -> g.heap(0, 1));
        });
        DOC.says("Promise 38", "Returns the number of heaps then", c -> {
            HeapGames g = new HeapGames();
            g.saveSnapshot(0);
            c.due("of a new object", 0, () -> g.restoreSnapshot(0));
            HeapGames other = Texts.gameOf(TEXT + "heap a 1;");
            other.saveSnapshot(0);
            other.removeHeap(0);
            c.due("4 in place of 3", 4, () -> other.restoreSnapshot(0));
            other.removeHeap(0);
            other.removeHeap(0);
            other.saveSnapshot(1);
            other.addHeap(0, 1);
            c.due("2 in place of 3", 2, () -> other.restoreSnapshot(1));
        });
        DOC.says("Promise 38", "Throws IllegalArgumentException if slot is neither 0 nor 1", c -> {
            HeapGames g = Texts.gameOf(TEXT);
            for (int slot : NO_SLOTS) {
                c.dueArgument("both empty: " + slot, () -> g.restoreSnapshot(slot));
            }
            g.saveSnapshot(0);
            g.saveSnapshot(1);
            for (int slot : NO_SLOTS) {
                c.dueArgument("both saved: " + slot, () -> g.restoreSnapshot(slot));
            }
        });
        DOC.says("Promise 38", "Throws IllegalStateException if the slot is empty", c -> {
            HeapGames g = Texts.gameOf(TEXT);
            c.dueState("slot 0", () -> g.restoreSnapshot(0));
            c.dueState("slot 1", () -> g.restoreSnapshot(1));
            g.saveSnapshot(0);
            c.dueState("slot 1 beside a saved one", () -> g.restoreSnapshot(1));
            g.setPasses(1);
            c.dueState("slot 1", () -> g.restoreSnapshot(1));
            c.due("and the history stays", 1, () -> g.size(9));
        });
    }

    private static void whatSnapshotsHold() {
        DOC.says("Changes", "a snapshot holds everything that changes can change", c -> {
            HeapGames g = Texts.gameOf(TEXT);
            makeAll(g);
            String heaps = Sentences.heaps(g);
            String record = Sentences.record(g);
            String moves = Sentences.moves(g);
            g.saveSnapshot(0);
            g.undo();
            g.undo();
            g.undo();
            g.setPasses(1);
            g.take(0, 1);
            g.setSize(2, 3);
            c.due("the heaps differ", false, () -> Sentences.heaps(g).equals(heaps));
            c.due("the record differs", false, () -> Sentences.record(g).equals(record));
            g.restoreSnapshot(0);
            c.due("the heaps", heaps, () -> Sentences.heaps(g));
            c.due("the passes", 3, () -> g.size(2));
            c.due("the ending", 1, () -> g.size(4));
            c.due("the record", record, () -> Sentences.record(g));
            c.due("the player who is to move", 0, () -> g.size(7));
            c.due("the moves", moves, () -> Sentences.moves(g));
        });
        DOC.says("Changes", "a snapshot holds everything: the moves of the record too", c -> {
            for (int slot = 0; slot < 2; slot++) {
                int used = slot;
                HeapGames g = Texts.gameOf(TEXT);
                g.take(0, 1);
                g.take(2, 2);
                g.saveSnapshot(used);
                g.undo();
                g.undo();
                g.takeBoth(0, 1, 3);
                g.pass();
                g.pass();
                c.due("the moves before", "1 0 1 3; 2 -1 -1 0; 2 -1 -1 0", () -> Sentences.record(g));
                c.due("restoreSnapshot(" + used + ")", 3, () -> g.restoreSnapshot(used));
                c.due("the moves", "0 0 -1 1; 0 2 -1 2", () -> Sentences.record(g));
                c.due("the heaps and passes", "0:8 1:8 0:5 2", () -> Sentences.heaps(g) + " " + g.size(2));
            }
        });
        DOC.says("Changes", "and nothing of the input buffer", c -> {
            HeapGames g = Texts.gameOf(TEXT);
            g.saveSnapshot(0);
            Texts.append(g, "misere;");
            g.restoreSnapshot(0);
            c.due("size(5)", 20, () -> g.size(5));
            c.due("parse(7)", 0, () -> g.parse(7));
        });
    }

    // ---- the checksum

    private static long sumOf(long... numbers) {
        long sum = 0;
        for (long number : numbers) {
            sum = 31 * sum + number;
        }
        return sum;
    }

    private static void checksum() {
        DOC.says("Promise 39", "It starts at 0", c -> {
            c.due("a new object: zeros alone", 0L, () -> new HeapGames().checksum());
            c.due("the ending is the last but one of its numbers", 31L, () -> Texts.gameOf("misere;").checksum());
            c.due("the shared amounts come before it", 6L * 31 * 31, () -> Texts.gameOf("shared 1 2;").checksum());
            c.due("the passes before them", 3L * 31 * 31 * 31, () -> Texts.gameOf("passes 3;").checksum());
        });
        DOC.says("Promise 39", "each number n in the following order replaces it by 31 * checksum + n", c -> {
            HeapGames g = Texts.gameOf(TEXT + "misere;rule c squares;");
            c.due("a text", sumOf(3, 0, 2, 4, 3, 0, 9, 1, 8, 0, 7, 2, 8, 1, 0), () -> g.checksum());
            g.take(2, 2);
            c.due("a take", sumOf(3, 0, 2, 4, 3, 0, 9, 1, 8, 0, 5, 2, 8, 1, 1, 0, 2, -1, 2), () -> g.checksum());
            g.takeBoth(1, 0, 3);
            g.pass();
            c.due("all kinds of moves", sumOf(3, 0, 2, 4, 3, 0, 6, 1, 5, 0, 5, 1, 8, 1, 3, 0, 2, -1, 2, 1, 0, 1, 3, 2, -1, -1, 0),
                    () -> g.checksum());
            g.removeHeap(0);
            g.setMisere(false);
            c.due("other changes", sumOf(3, 0, 2, 4, 2, 1, 5, 0, 5, 1, 8, 0, 3, 0, 2, -1, 2, 1, 0, 1, 3, 2, -1, -1, 0),
                    () -> g.checksum());
        });
        DOC.says("Promise 39", "wrapping around on overflow of a long", c -> {
            HeapGames g = Texts.gameOf("rule a take 1;heap a 15;");
            List<Integer> numbers = new ArrayList<>(List.of(1, 0, 1, 0, 0, 0, 0, 0, 15));
            for (int move = 0; move < 15; move++) {
                g.take(0, 1);
                numbers.addAll(List.of(0, 0, -1, 1));
            }
            BigInteger exact = BigInteger.ZERO;
            for (int number : numbers) {
                exact = exact.multiply(BigInteger.valueOf(31)).add(BigInteger.valueOf(number));
            }
            int bits = exact.bitLength();
            long wrapped = exact.longValue();
            c.due("the exact sum fits in no long", true, () -> bits > 64);
            c.due("checksum()", wrapped, () -> g.checksum());
        });
        DOC.says("Promise 39", "of these numbers and no others", c -> {
            HeapGames g = Texts.gameOf(TEXT);
            long before = g.checksum();
            Texts.append(g, "misere;");
            g.saveSnapshot(0);
            g.setPasses(2);
            g.isWon();
            c.due("the buffer, the slots and the history do not count", before, () -> g.checksum());
            c.due("nor do names and amounts", before,
                    () -> Texts.gameOf(TEXT.replace("rule a take 1 2", "rule x take 60").replace("heap a", "heap x")).checksum());
        });
    }

    // ---- the life of an object

    private static void lifeOfAnObject() {
        DOC.says("What it is", "An object is used for at most 512 calls: the last of them is answered as the first", c -> {
            HeapGames g = Texts.gameOf("rule a take 1 2 3;heap a 13;");
            // the text took two appends and parse
            for (int call = 3; call < 511; call += 2) {
                boolean misere = call % 4 == 3;
                g.setMisere(misere);
                c.due("call " + (call + 2), !misere, () -> g.isWon());
            }
            c.due("call 512", true, () -> g.isWon());
        });
        DOC.says("What it is", "at most 512 calls: many texts and heaps", c -> {
            HeapGames g = new HeapGames();
            for (int calls = 0; calls <= 512 - 8; calls += 8) {
                int kind = calls / 8 % 2;
                Texts.append(g, kind == 0 ? "rule a take 1;" : "rule b half;");
                g.parse(kind == 0 ? 14 : 12);
                g.addHeap(0, 5);
                g.addHeap(0, 2);
                c.due("isWon()", kind == 0, () -> g.isWon());
                g.removeHeap(1);
                c.due("value", 1, () -> g.positionValue());
                g.undo();
            }
        });
        DOC.says("The constants", "NONE = -1", c -> c.due("NONE", -1, () -> HeapGames.NONE));
    }
}
