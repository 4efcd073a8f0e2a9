import java.util.function.Consumer;
import java.util.function.Function;

/** The sentences about the changing methods: Terms (Changes), promises 27 to 35. */
public final class BoundaryChangeTests {
    private static final Sentences DOC = new Sentences();
    private static final int[] OUTSIDE = {-1, Integer.MIN_VALUE, Integer.MAX_VALUE};
    private static final String TEXT =
            "rule a take 1 2 5;rule b half;heap a 9;heap b 8;heap a 7;shared 3;passes 2;";
    private static final String[] CHANGES = {
        "take", "takeBoth", "pass", "play", "setSize", "setPasses", "setMisere", "addHeap", "removeHeap",
    };

    private BoundaryChangeTests() {
    }

    public static void main(String[] args) {
        whatAChangeIs();
        refusedCalls();
        theRecord();
        fullRecord();
        take();
        takeBoth();
        pass();
        play();
        setSize();
        setPasses();
        setMisere();
        addHeap();
        removeHeap();
        DOC.end();
    }

    private static Object make(HeapGames g, String change) {
        switch (change) {
            case "take": return g.take(0, 2);
            case "takeBoth": return g.takeBoth(2, 1, 3);
            case "pass": return g.pass();
            case "play": return g.play();
            case "setSize": return g.setSize(1, 15);
            case "setPasses": return g.setPasses(3);
            case "setMisere": return g.setMisere(true);
            case "addHeap": return g.addHeap(1, 6);
            default: return g.removeHeap(0);
        }
    }

    /** A call that throws an exception leaves everything as it was. */
    private static void refused(Check c, HeapGames g, String exception, Function<HeapGames, Object> call) {
        String before = Sentences.sight(g);
        c.due("a refused call", "throws java.lang." + exception, () -> call.apply(g));
        c.due("what it leaves", before, () -> Sentences.sight(g));
    }

    // ---- Terms: changes

    private static void whatAChangeIs() {
        for (String change : CHANGES) {
            DOC.says("Changes", "The changing methods are take, takeBoth .. and removeHeap: " + change, c -> {
                HeapGames g = Texts.gameOf(TEXT);
                String before = Sentences.sight(g);
                make(g, change);
                c.due("changes after it", 1, () -> g.size(9));
                c.due("something changed", false, () -> Sentences.sight(g).equals(before));
                c.due("undo()", 0, () -> g.undo());
                c.due("and all is as before", before, () -> Sentences.sight(g));
            });
        }
        DOC.says("Changes", "is a change, also if it alters nothing", c -> {
            HeapGames g = Texts.gameOf(TEXT);
            g.setSize(0, 9);
            c.due("setSize to the same", 1, () -> g.size(9));
            g.setPasses(2);
            c.due("setPasses to the same", 2, () -> g.size(9));
            g.setMisere(false);
            c.due("setMisere to the same", 3, () -> g.size(9));
            c.due("undo()", 2, () -> g.undo());
        });
        DOC.says("Changes", "neither throws an exception nor returns NONE: others are no changes", c -> {
            HeapGames g = Texts.gameOf(TEXT);
            g.append(0, 0, 0, 0, 0);
            g.saveSnapshot(0);
            g.isWon();
            g.best();
            g.lostWith(0);
            g.lostBelow();
            c.due("questions, append and saveSnapshot", 0, () -> g.size(9));
            g.restoreSnapshot(0);
            c.due("restoreSnapshot", 0, () -> g.size(9));
            g.parse(20);
            c.due("a refused text", 0, () -> g.size(9));
        });
    }

    private static void refusedCalls() {
        String heading = "Changes";
        String words = "A method that throws an exception changes nothing: ";
        DOC.says(heading, words + "take", c -> {
            refused(c, Texts.gameOf(TEXT), "IndexOutOfBoundsException", g -> g.take(3, 1));
            refused(c, Texts.gameOf(TEXT), "IllegalArgumentException", g -> g.take(0, 3));
        });
        DOC.says(heading, words + "takeBoth", c -> {
            refused(c, Texts.gameOf(TEXT), "IndexOutOfBoundsException", g -> g.takeBoth(0, 3, 3));
            refused(c, Texts.gameOf(TEXT), "IllegalArgumentException", g -> g.takeBoth(0, 1, 2));
            refused(c, Texts.gameOf(TEXT), "IllegalArgumentException", g -> g.takeBoth(1, 1, 3));
        });
        DOC.says(heading, words + "pass and play", c -> {
            refused(c, Texts.gameOf("rule a take 60;heap a 5;passes 1;"), "IllegalStateException", g -> g.pass());
            refused(c, Texts.gameOf("rule a take 60;heap a 5;passes 1;"), "IllegalStateException", g -> g.play());
        });
        DOC.says(heading, words + "setSize, setPasses, addHeap and removeHeap", c -> {
            refused(c, Texts.gameOf(TEXT), "IndexOutOfBoundsException", g -> g.setSize(3, 1));
            refused(c, Texts.gameOf(TEXT), "IllegalArgumentException", g -> g.setSize(0, 16));
            refused(c, Texts.gameOf(TEXT), "IllegalArgumentException", g -> g.setPasses(4));
            refused(c, Texts.gameOf(TEXT), "IndexOutOfBoundsException", g -> g.addHeap(2, 1));
            refused(c, Texts.gameOf(TEXT), "IllegalArgumentException", g -> g.addHeap(0, 16));
            refused(c, Texts.gameOf(TEXT + "heap a 1;"), "IllegalStateException", g -> g.addHeap(0, 1));
            refused(c, Texts.gameOf(TEXT), "IndexOutOfBoundsException", g -> g.removeHeap(3));
        });
        DOC.says(heading, words + "parse, saveSnapshot, restoreSnapshot and the questions", c -> {
            refused(c, Texts.gameOf(TEXT), "IllegalArgumentException", g -> g.parse(1));
            refused(c, Texts.gameOf(TEXT), "IllegalArgumentException", g -> g.saveSnapshot(2));
            refused(c, Texts.gameOf(TEXT), "IllegalArgumentException", g -> g.restoreSnapshot(2));
            refused(c, Texts.gameOf(TEXT), "IllegalStateException", g -> g.restoreSnapshot(0));
            refused(c, Texts.gameOf(TEXT), "IndexOutOfBoundsException", g -> g.move(99, 0));
            refused(c, Texts.gameOf(TEXT), "IndexOutOfBoundsException", g -> g.lostWith(3));
            refused(c, Texts.gameOf(TEXT), "IllegalArgumentException", g -> g.value(0, 301));
        });
    }

    private static void theRecord() {
        DOC.says("Changes", "take, takeBoth, pass and play are played moves", c -> {
            HeapGames g = Texts.gameOf(TEXT);
            for (int move = 0; move < 4; move++) {
                int due = move;
                c.due("moves before " + CHANGES[move], due, () -> g.size(6));
                make(g, CHANGES[move]);
            }
            c.due("moves", 4, () -> g.size(6));
            for (int other = 4; other < CHANGES.length; other++) {
                make(g, CHANGES[other]);
            }
            c.due("the others are none", 4, () -> g.size(6));
        });
        DOC.says("Changes", "The record holds those since the latest parse that succeeded", c -> {
            HeapGames g = Texts.gameOf(TEXT);
            g.take(0, 2);
            Texts.parse(g, "#");
            c.due("after an error", "0 0 -1 2", () -> Sentences.record(g));
            g.take(0, 5);
            Texts.parse(g, TEXT);
            c.due("after a text", "", () -> Sentences.record(g));
            g.take(2, 1);
            c.due("the next move", "0 2 -1 1", () -> Sentences.record(g));
        });
        DOC.says("Changes", "the first heap of a shared move is the lower one there, in whatever order it was played", c -> {
            HeapGames g = Texts.gameOf(TEXT);
            g.takeBoth(2, 0, 3);
            g.takeBoth(0, 1, 3);
            g.takeBoth(2, 1, 3);
            c.due("the record", "1 0 2 3; 1 0 1 3; 1 1 2 3", () -> Sentences.record(g));
        });
        DOC.says("Changes", "The player who is to move is 0 if the record has an even number of moves, otherwise 1", c -> {
            HeapGames g = Texts.gameOf(TEXT);
            c.due("none", 0, () -> g.size(7));
            g.take(0, 1);
            c.due("one", 1, () -> g.size(7));
            g.setSize(0, 9);
            g.setMisere(true);
            c.due("one, and other changes", 1, () -> g.size(7));
            g.pass();
            c.due("two", 0, () -> g.size(7));
            g.undo();
            c.due("one again", 1, () -> g.size(7));
            HeapGames full = fullRecordGame();
            c.due("forty", 0, () -> full.size(7));
            full.undo();
            c.due("thirty-nine", 1, () -> full.size(7));
        });
    }

    /** A game with 40 moves in its record, two heaps of 5, one pass and the shared amount 1. */
    private static HeapGames fullRecordGame() {
        HeapGames g = Texts.gameOf("rule a take 1;heap a 15;heap a 15;heap a 15;heap a 5;shared 1;passes 1;");
        for (int move = 0; move < 40; move++) {
            g.take(move < 15 ? 0 : move < 30 ? 1 : 2, 1);
        }
        return g;
    }

    private static void leavesAll(Check c, Function<HeapGames, Object> call) {
        HeapGames g = fullRecordGame();
        String before = Sentences.sight(g);
        c.due("at 40 moves", -1, () -> call.apply(g));
        c.due("what it leaves", before, () -> Sentences.sight(g));
        c.due("undo()", 9, () -> g.undo());
        c.due("the moves then", 39, () -> g.size(6));
        c.due("and there is room again", false, () -> call.apply(g).equals(-1));
        c.due("for the 40th", 40, () -> g.size(6));
    }

    private static void fullRecord() {
        DOC.says("Changes", "at most 40", c -> {
            HeapGames g = fullRecordGame();
            c.due("size(6)", 40, () -> g.size(6));
            c.due("the first", 0, () -> g.played(0, 1));
            c.due("the last", 2, () -> g.played(39, 1));
            c.dueIndex("no further", () -> g.played(40, 0));
        });
        String words = "NONE, and nothing changes, if the record has 40 moves";
        DOC.says("Promise 27", words, c -> leavesAll(c, g -> g.take(3, 1)));
        DOC.says("Promise 28", words, c -> leavesAll(c, g -> g.takeBoth(3, 2, 1)));
        DOC.says("Promise 29", words, c -> leavesAll(c, g -> g.pass()));
        DOC.says("Promise 30", words, c -> leavesAll(c, g -> g.play()));
        DOC.says("Changes", "at 40 moves the other changes go on", c -> {
            HeapGames g = fullRecordGame();
            c.due("setSize", 5, () -> g.setSize(3, 6));
            c.due("setPasses", 1, () -> g.setPasses(2));
            c.due("setMisere", false, () -> g.setMisere(true));
            c.due("removeHeap", 3, () -> g.removeHeap(0));
            c.due("addHeap", 3, () -> g.addHeap(0, 1));
            c.due("the record", 40, () -> g.size(6));
        });
        DOC.says("Changes", "exceptions come before a result of NONE", c -> {
            HeapGames g = fullRecordGame();
            c.dueIndex("take of no heap", () -> g.take(4, 1));
            c.dueArgument("take", () -> g.take(3, 2));
            c.dueIndex("takeBoth of no heap", () -> g.takeBoth(4, 2, 1));
            c.dueIndex("takeBoth of no other heap", () -> g.takeBoth(2, 4, 1));
            c.dueArgument("takeBoth of one heap", () -> g.takeBoth(2, 2, 1));
            c.dueArgument("takeBoth of no shared amount", () -> g.takeBoth(2, 3, 2));
            c.dueArgument("takeBoth of an empty heap", () -> g.takeBoth(0, 3, 1));
            g.setPasses(0);
            c.dueState("pass", () -> g.pass());
            g.setSize(2, 0);
            g.setSize(3, 0);
            c.dueState("play", () -> g.play());
        });
    }

    // ---- promises 27 to 30

    private static void take() {
        DOC.says("Promise 27", "Returns the counters that the heap has then", c -> {
            HeapGames g = Texts.gameOf(TEXT);
            c.due("take(0, 5)", 4, () -> g.take(0, 5));
            c.due("take(1, 4)", 4, () -> g.take(1, 4));
            c.due("take(2, 2)", 5, () -> g.take(2, 2));
            c.due("take(2, 5)", 0, () -> g.take(2, 5));
            c.due("the heaps", "0:4 1:4 0:0", () -> Sentences.heaps(g));
            c.due("the record", "0 0 -1 5; 0 1 -1 4; 0 2 -1 2; 0 2 -1 5", () -> Sentences.record(g));
        });
        DOC.says("Promise 27", "Throws IndexOutOfBoundsException if there is no such heap", c -> {
            HeapGames g = Texts.gameOf(TEXT);
            c.dueIndex("take(3, 1)", () -> g.take(3, 1));
            for (int heap : OUTSIDE) {
                c.dueIndex("take(" + heap + ", 1)", () -> g.take(heap, 1));
            }
            c.dueIndex("take(0, 1) without heaps", () -> new HeapGames().take(0, 1));
        });
        DOC.says("Promise 27", "Throws IllegalArgumentException if the rule of the heap does not allow the amount", c -> {
            HeapGames g = Texts.gameOf(TEXT);
            for (int amount : new int[] {0, -1, 3, 6, 9, 65, Integer.MIN_VALUE, Integer.MAX_VALUE}) {
                c.dueArgument("take(0, " + amount + ")", () -> g.take(0, amount));
            }
            c.dueArgument("half of 8 and one more", () -> g.take(1, 5));
            g.setSize(0, 4);
            c.dueArgument("5 of 4", () -> g.take(0, 5));
            g.setSize(0, 5);
            c.due("5 of 5", 0, () -> g.take(0, 5));
            c.dueArgument("1 of 0", () -> g.take(0, 1));
        });
        DOC.says("Promise 27", "the exception that is listed first is thrown", c -> {
            HeapGames g = Texts.gameOf(TEXT);
            c.dueIndex("take(3, 0)", () -> g.take(3, 0));
            c.dueIndex("take(-1, 99)", () -> g.take(-1, 99));
        });
    }

    private static void takeBoth() {
        String still = "rule s take 60;heap s 7;heap s 5;heap s 1;heap s 15;shared 5 7 1;";
        DOC.says("Promise 28", "Returns the counters that all heaps have together then", c -> {
            HeapGames g = Texts.gameOf(still);
            c.due("takeBoth(0, 1, 5)", 18, () -> g.takeBoth(0, 1, 5));
            c.due("takeBoth(3, 2, 1)", 16, () -> g.takeBoth(3, 2, 1));
            c.due("the heaps", "0:2 0:0 0:0 0:14", () -> Sentences.heaps(g));
            HeapGames pair = Texts.gameOf("rule s take 60;heap s 15;heap s 15;shared 15;");
            c.due("all of both", 0, () -> pair.takeBoth(0, 1, 15));
            HeapGames passes = Texts.gameOf(still + "passes 3;");
            c.due("counters alone", 14, () -> passes.takeBoth(0, 3, 7));
        });
        DOC.says("Promise 28", "the number of another heap (lower or higher)", c -> {
            for (int first = 0; first < 4; first++) {
                for (int second = 0; second < 4; second++) {
                    int heap = first;
                    int other = second;
                    HeapGames g = Texts.gameOf(still);
                    if (heap != other) {
                        c.due("takeBoth(" + heap + ", " + other + ", 1)", 26, () -> g.takeBoth(heap, other, 1));
                        c.due("the move", "1 " + Math.min(heap, other) + " " + Math.max(heap, other) + " 1", () -> Sentences.record(g));
                    }
                }
            }
        });
        DOC.says("Promise 28", "Throws IndexOutOfBoundsException if there is no such heap", c -> {
            HeapGames g = Texts.gameOf(still);
            for (int heap : new int[] {4, -1, Integer.MIN_VALUE, Integer.MAX_VALUE}) {
                c.dueIndex("takeBoth(" + heap + ", 0, 1)", () -> g.takeBoth(heap, 0, 1));
                c.dueIndex("takeBoth(0, " + heap + ", 1)", () -> g.takeBoth(0, heap, 1));
            }
        });
        DOC.says("Promise 28", "Throws IllegalArgumentException if both heaps are the same", c -> {
            for (int heap = 0; heap < 4; heap++) {
                int same = heap;
                c.dueArgument("takeBoth(" + heap + ", " + heap + ", 1)", () -> Texts.gameOf(still).takeBoth(same, same, 1));
            }
        });
        DOC.says("Promise 28", "the amount is no shared one", c -> {
            HeapGames g = Texts.gameOf(still);
            for (int amount : new int[] {0, 2, 4, 6, -1, 33, 37, -27, Integer.MIN_VALUE, Integer.MAX_VALUE}) {
                c.dueArgument("takeBoth(0, 3, " + amount + ")", () -> g.takeBoth(0, 3, amount));
            }
            HeapGames none = Texts.gameOf("rule a take 1;heap a 5;heap a 5;");
            c.dueArgument("without shared amounts", () -> none.takeBoth(0, 1, 1));
            HeapGames most = Texts.gameOf("rule a take 1;heap a 15;heap a 15;shared 15;");
            c.dueArgument("14", () -> most.takeBoth(0, 1, 14));
            c.dueArgument("16", () -> most.takeBoth(0, 1, 16));
        });
        DOC.says("Promise 28", "or one of the heaps has fewer counters", c -> {
            HeapGames g = Texts.gameOf(still);
            c.dueArgument("the second has fewer", () -> g.takeBoth(0, 1, 7));
            c.dueArgument("the first has fewer", () -> g.takeBoth(1, 0, 7));
            c.dueArgument("both have", () -> g.takeBoth(1, 2, 7));
            c.due("just as many", 14, () -> g.takeBoth(0, 3, 7));
            c.dueArgument("an empty heap", () -> g.takeBoth(0, 1, 1));
        });
        DOC.says("Promise 28", "the exception that is listed first is thrown", c -> {
            HeapGames g = Texts.gameOf(still);
            c.dueIndex("takeBoth(4, 4, 1)", () -> g.takeBoth(4, 4, 1));
            c.dueIndex("takeBoth(-1, -1, 1)", () -> g.takeBoth(-1, -1, 1));
            c.dueIndex("takeBoth(0, 4, 2)", () -> g.takeBoth(0, 4, 2));
            c.dueIndex("takeBoth(4, 0, 2)", () -> g.takeBoth(4, 0, 2));
            c.dueIndex("takeBoth(2, 9, 7)", () -> g.takeBoth(2, 9, 7));
        });
    }

    private static void pass() {
        DOC.says("Promise 29", "Returns the passes that are left then", c -> {
            HeapGames g = Texts.gameOf(TEXT + "heap b 15;");
            g.setPasses(3);
            for (int left = 2; left >= 0; left--) {
                int due = left;
                c.due("pass()", due, () -> g.pass());
                c.due("size(2)", due, () -> g.size(2));
            }
            c.due("the record", "2 -1 -1 0; 2 -1 -1 0; 2 -1 -1 0", () -> Sentences.record(g));
            c.due("the heaps", "0:9 1:8 0:7 1:15", () -> Sentences.heaps(g));
        });
        DOC.says("Promise 29", "Throws IllegalStateException if the pass is not a move of the position: no pass is left", c -> {
            c.dueState("none from the start", () -> Texts.gameOf("rule a take 1;heap a 1;").pass());
            HeapGames g = Texts.gameOf("rule a take 1;heap a 1;passes 1;");
            c.due("the last one", 0, () -> g.pass());
            c.dueState("none left", () -> g.pass());
        });
        DOC.says("Promise 29", "Throws IllegalStateException if the pass is not a move of the position: no other move", c -> {
            c.dueState("a new object", () -> new HeapGames().pass());
            c.dueState("without heaps", () -> Texts.gameOf("passes 3;").pass());
            c.dueState("without takes", () -> Texts.gameOf("rule a take 60;heap a 15;passes 3;").pass());
            c.dueState("too few for the shared amount",
                    () -> Texts.gameOf("rule a take 60;heap a 15;heap a 1;shared 2;passes 3;").pass());
            c.due("a shared move", 2, () -> Texts.gameOf("rule a take 60;heap a 15;heap a 2;shared 2;passes 3;").pass());
        });
    }

    private static void play() {
        DOC.says("Promise 30", "Plays the best move (see best)", c -> {
            HeapGames take = Texts.gameOf("rule a take 1 2 4;heap a 7;");
            take.play();
            c.due("a take", "0 0 -1 4 0:3", () -> Sentences.record(take) + " " + Sentences.heaps(take));
            HeapGames shared = Texts.gameOf("rule a take 1 2 4;heap a 7;heap a 7;shared 7;");
            shared.play();
            c.due("a shared move", "1 0 1 7 0:0 0:0", () -> Sentences.record(shared) + " " + Sentences.heaps(shared));
            HeapGames pass = Texts.gameOf("rule a take 1;heap a 2;passes 1;");
            pass.play();
            c.due("the pass", "2 -1 -1 0 0:2 0", () -> Sentences.record(pass) + " " + Sentences.heaps(pass) + " " + pass.size(2));
        });
        DOC.says("Promise 30", "Returns its index", c -> {
            HeapGames g = Texts.gameOf("rule a take 1 2 4;heap a 7;");
            for (int due : new int[] {2, 0, 1}) {
                c.due("best()", due, () -> g.best());
                c.due("play()", due, () -> g.play());
            }
            c.due("the pass", 1, () -> Texts.gameOf("rule a take 1;heap a 2;passes 1;").play());
        });
        DOC.says("Promise 30", "Throws IllegalStateException if the position has no move", c -> {
            c.dueState("a new object", () -> new HeapGames().play());
            c.dueState("passes alone", () -> Texts.gameOf("rule a take 60;heap a 15;passes 3;").play());
            HeapGames g = Texts.gameOf("rule a take 1;heap a 1;");
            c.due("the last move", 0, () -> g.play());
            c.dueState("after it", () -> g.play());
        });
    }

    // ---- promises 31 to 35

    private static void setSize() {
        DOC.says("Promise 31", "Sets the counters of a heap. Returns the previous number", c -> {
            HeapGames g = Texts.gameOf("rule a take 1;heap a 3;heap a 4;heap a 5;heap a 6;passes 3;");
            for (int heap = 0; heap < 4; heap++) {
                int set = heap;
                c.due("to 15", set + 3, () -> g.setSize(set, 15));
                c.due("to 0", 15, () -> g.setSize(set, 0));
                c.due("to 7", 0, () -> g.setSize(set, 7));
            }
            c.due("the heaps", "0:7 0:7 0:7 0:7", () -> Sentences.heaps(g));
            c.due("the passes", 3, () -> g.size(2));
        });
        DOC.says("Promise 31", "size: 0 to 15", c -> {
            HeapGames g = Texts.gameOf("rule a take 1;heap a 3;");
            for (int size = 0; size <= 15; size++) {
                int set = size;
                g.setSize(0, size);
                c.due("heap(0, 1)", set, () -> g.heap(0, 1));
            }
        });
        DOC.says("Promise 31", "Throws IllegalArgumentException if size is out of range", c -> {
            HeapGames g = Texts.gameOf("rule a take 1;heap a 3;");
            c.dueArgument("16", () -> g.setSize(0, 16));
            for (int size : OUTSIDE) {
                c.dueArgument("setSize(0, " + size + ")", () -> g.setSize(0, size));
            }
        });
        DOC.says("Promise 31", "Throws IndexOutOfBoundsException if there is no such heap, which comes first", c -> {
            HeapGames g = Texts.gameOf("rule a take 1;heap a 3;");
            for (int heap : new int[] {1, -1, 4, Integer.MIN_VALUE, Integer.MAX_VALUE}) {
                c.dueIndex("setSize(" + heap + ", 1)", () -> g.setSize(heap, 1));
                c.dueIndex("setSize(" + heap + ", 16)", () -> g.setSize(heap, 16));
            }
        });
    }

    private static void setPasses() {
        DOC.says("Promise 32", "Sets the passes that are left. Returns the previous number", c -> {
            HeapGames g = Texts.gameOf("rule a take 1;heap a 15;heap a 15;heap a 15;heap a 15;passes 2;");
            int previous = 2;
            for (int passes : new int[] {0, 3, 1, 1, 2, 0}) {
                int due = previous;
                c.due("setPasses(" + passes + ")", due, () -> g.setPasses(passes));
                c.due("size(2)", passes, () -> g.size(2));
                previous = passes;
            }
            c.due("the heaps", "0:15 0:15 0:15 0:15", () -> Sentences.heaps(g));
        });
        DOC.says("Promise 32", "Throws IllegalArgumentException if passes is out of range (0 to 3)", c -> {
            HeapGames g = new HeapGames();
            c.dueArgument("4", () -> g.setPasses(4));
            for (int passes : OUTSIDE) {
                c.dueArgument("setPasses(" + passes + ")", () -> g.setPasses(passes));
            }
            c.due("3", 0, () -> g.setPasses(3));
            c.due("0", 3, () -> g.setPasses(0));
        });
    }

    private static void setMisere() {
        DOC.says("Promise 33", "Sets the ending. Returns whether it was before", c -> {
            HeapGames g = new HeapGames();
            c.due("false, was false", false, () -> g.setMisere(false));
            c.due("true, was false", false, () -> g.setMisere(true));
            c.due("size(4)", 1, () -> g.size(4));
            c.due("true, was true", true, () -> g.setMisere(true));
            c.due("size(4)", 1, () -> g.size(4));
            c.due("false, was true", true, () -> g.setMisere(false));
            c.due("size(4)", 0, () -> g.size(4));
        });
        DOC.says("Promise 33", "whether it is the misere ending from now on", c -> {
            HeapGames g = Texts.gameOf("rule a take 1 2;heap a 4;");
            c.due("normal", "true 0 1", () -> g.isWon() + " " + g.best() + " " + g.winning());
            g.setMisere(true);
            c.due("misere", "false 0 0", () -> g.isWon() + " " + g.best() + " " + g.winning());
            c.due("misere, all sizes", 0x2492, () -> g.lostWith(0));
        });
    }

    private static void addHeap() {
        DOC.says("Promise 34", "Adds a heap, which gets the next number. Returns the number of the heap", c -> {
            HeapGames g = Texts.gameOf("rule a take 1;rule b half;shared 2;passes 3;");
            c.due("the first", 0, () -> g.addHeap(1, 0));
            c.due("the second", 1, () -> g.addHeap(0, 15));
            c.due("the third", 2, () -> g.addHeap(1, 15));
            c.due("the fourth", 3, () -> g.addHeap(0, 7));
            c.due("the heaps", "1:0 0:15 1:15 0:7", () -> Sentences.heaps(g));
            c.due("the passes", 3, () -> g.size(2));
            g.removeHeap(1);
            c.due("the fourth again", 3, () -> g.addHeap(1, 4));
            c.due("the heaps", "1:0 1:15 0:7 1:4", () -> Sentences.heaps(g));
        });
        DOC.says("Promise 34", "Throws IndexOutOfBoundsException if there is no such rule", c -> {
            HeapGames g = Texts.gameOf("rule a take 1;rule b half;");
            c.dueIndex("addHeap(2, 1)", () -> g.addHeap(2, 1));
            for (int rule : OUTSIDE) {
                c.dueIndex("addHeap(" + rule + ", 1)", () -> g.addHeap(rule, 1));
            }
            c.dueIndex("without rules", () -> new HeapGames().addHeap(0, 1));
        });
        DOC.says("Promise 34", "Throws IllegalArgumentException if size is out of range (0 to 15)", c -> {
            HeapGames g = Texts.gameOf("rule a take 1;");
            c.dueArgument("addHeap(0, 16)", () -> g.addHeap(0, 16));
            for (int size : OUTSIDE) {
                c.dueArgument("addHeap(0, " + size + ")", () -> g.addHeap(0, size));
            }
        });
        DOC.says("Promise 34", "Throws IllegalStateException if there are 4 heaps", c -> {
            HeapGames g = Texts.gameOf("rule a take 1;heap a 1;heap a 1;heap a 1;");
            c.due("the fourth", 3, () -> g.addHeap(0, 1));
            c.dueState("the fifth", () -> g.addHeap(0, 1));
            c.due("size(1)", 4, () -> g.size(1));
        });
        DOC.says("Promise 34", "the exception that is listed first is thrown", c -> {
            HeapGames g = Texts.gameOf("rule a take 1;heap a 1;heap a 1;heap a 1;heap a 1;");
            c.dueIndex("no rule, size, 4 heaps", () -> g.addHeap(1, 16));
            c.dueIndex("no rule, 4 heaps", () -> g.addHeap(-1, 1));
            c.dueArgument("size, 4 heaps", () -> g.addHeap(0, 16));
            c.dueArgument("size, 4 heaps", () -> g.addHeap(0, -1));
        });
    }

    private static void afterRemoval(Check c, int removed, String due) {
        HeapGames g = Texts.gameOf("rule a take 1;rule b half;rule c powers;rule d squares;"
                + "heap a 1;heap b 3;heap c 15;heap d 4;passes 3;");
        c.due("removeHeap(" + removed + ")", 3, () -> g.removeHeap(removed));
        c.due("the heaps", due, () -> Sentences.heaps(g));
        c.due("the passes", 3, () -> g.size(2));
    }

    private static void removeHeap() {
        DOC.says("Promise 35", "Removes a heap. The numbers of higher ones become 1 less", c -> {
            afterRemoval(c, 0, "1:3 2:15 3:4");
            afterRemoval(c, 1, "0:1 2:15 3:4");
            afterRemoval(c, 2, "0:1 1:3 3:4");
            afterRemoval(c, 3, "0:1 1:3 2:15");
        });
        DOC.says("Promise 35", "Returns the number of heaps then", c -> {
            HeapGames g = Texts.gameOf("rule a take 1;heap a 1;heap a 1;heap a 1;heap a 1;");
            for (int heaps = 3; heaps >= 0; heaps--) {
                int due = heaps;
                c.due("removeHeap(0)", due, () -> g.removeHeap(0));
                c.due("size(1)", due, () -> g.size(1));
            }
        });
        DOC.says("Promise 35", "moves in the record keep their numbers", c -> {
            HeapGames g = Texts.gameOf(TEXT);
            g.take(2, 5);
            g.takeBoth(1, 0, 3);
            g.removeHeap(0);
            g.removeHeap(0);
            g.removeHeap(0);
            c.due("the record", "0 2 -1 5; 1 0 1 3", () -> Sentences.record(g));
        });
        DOC.says("Promise 35", "Throws IndexOutOfBoundsException if there is no such heap", c -> {
            HeapGames g = Texts.gameOf("rule a take 1;heap a 1;heap a 1;");
            c.dueIndex("removeHeap(2)", () -> g.removeHeap(2));
            for (int heap : OUTSIDE) {
                c.dueIndex("removeHeap(" + heap + ")", () -> g.removeHeap(heap));
            }
            g.removeHeap(0);
            c.dueIndex("removeHeap(1) of one", () -> g.removeHeap(1));
            g.removeHeap(0);
            c.dueIndex("removeHeap(0) of none", () -> g.removeHeap(0));
        });
        DOC.says("Promises 31 to 35", "what is asked afterwards is asked of the new position", c -> {
            // the values of 6 and 8 are 2 and 4; misere, the sizes 1, 5, 9, 13 are lost, with a pass 2, 6, 10, 14
            HeapGames g = Texts.gameOf("rule a take 1 2 3;rule b half;heap a 6;heap b 8;");
            afterwards(c, g, x -> { }, "true 1 6 0 6");
            afterwards(c, g, x -> x.setSize(0, 4), "true 1 4 0 4");
            afterwards(c, g, x -> x.removeHeap(1), "false 0 0 4 0");
            afterwards(c, g, x -> x.setMisere(true), "true 1 0 4 0");
            afterwards(c, g, x -> x.setPasses(1), "true 1 3 4 0");
            afterwards(c, g, x -> x.addHeap(1, 1), "true 1 3 4 0");
        });
        DOC.says("Promises 34 and 35", "heaps that come and go bring their rules and take them away", c -> {
            // the values of 2 by take 1 2 3, by half and by take 2 are 2, 1 and 1
            HeapGames g = Texts.gameOf("rule a take 1 2 3;rule b half;rule d take 2;heap a 2;heap b 2;");
            c.due("a and b", "3 3", () -> g.moves() + " " + g.positionValue());
            g.removeHeap(0);
            c.due("b", "1 1", () -> g.moves() + " " + g.positionValue());
            g.addHeap(0, 2);
            c.due("b and a", "3 3", () -> g.moves() + " " + g.positionValue());
            g.removeHeap(1);
            g.addHeap(2, 2);
            c.due("b and d", "2 0", () -> g.moves() + " " + g.positionValue());
            g.addHeap(0, 1);
            c.due("b, d and a", "3 1", () -> g.moves() + " " + g.positionValue());
            g.removeHeap(0);
            g.removeHeap(0);
            g.addHeap(0, 2);
            c.due("a and a", "3 3", () -> g.moves() + " " + g.positionValue());
            g.undo();
            g.undo();
            g.undo();
            c.due("b, d and a again", "3 1", () -> g.moves() + " " + g.positionValue());
        });
        DOC.says("Promises 34 and 35", "a heap of another rule in place of the only one", c -> {
            HeapGames g = Texts.gameOf("rule a take 1 2;rule b half;heap a 2;");
            g.saveSnapshot(0);
            c.due("a", "2 2", () -> g.moves() + " " + g.positionValue());
            g.removeHeap(0);
            g.addHeap(1, 2);
            c.due("b", "1 1", () -> g.moves() + " " + g.positionValue());
            g.restoreSnapshot(0);
            c.due("a again", "2 2", () -> g.moves() + " " + g.positionValue());
        });
    }

    /** Whether it is won, its winning moves, its value, how many sizes of heap 0 are lost, the nim sum. */
    private static void afterwards(Check c, HeapGames g, Consumer<HeapGames> change, String due) {
        change.accept(g);
        c.due("afterwards", due, () -> g.isWon() + " " + g.winning() + " " + g.positionValue() + " "
                + Integer.bitCount(g.lostWith(0)) + " " + g.nimSum());
    }
}
