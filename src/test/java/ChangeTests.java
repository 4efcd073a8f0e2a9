/** Promises 27 to 35: the changing methods. */
public final class ChangeTests {
    private static final Check CHECK = new Check();
    private static final int[] OUTSIDE = {-1, Integer.MIN_VALUE, Integer.MAX_VALUE};

    private ChangeTests() {
    }

    public static void main(String[] args) {
        take();
        takeBoth();
        pass();
        play();
        fullRecord();
        setSize();
        setPasses();
        setMisere();
        addHeap();
        removeHeap();
        CHECK.end();
    }

    private static void take() {
        HeapGames g = Texts.gameOf("rule a take 1 2 5;rule b squares;heap a 7;heap b 15;passes 1;");
        long before = g.checksum();
        CHECK.dueArgument("take(0, 0)", () -> g.take(0, 0));
        CHECK.dueArgument("take(0, 3)", () -> g.take(0, 3));
        CHECK.dueArgument("take(0, -1)", () -> g.take(0, -1));
        CHECK.dueArgument("take(0, 65)", () -> g.take(0, 65));
        CHECK.dueArgument("take(0, MIN)", () -> g.take(0, Integer.MIN_VALUE));
        CHECK.dueArgument("take(0, MAX)", () -> g.take(0, Integer.MAX_VALUE));
        CHECK.dueArgument("take(1, 16)", () -> g.take(1, 16));
        CHECK.dueIndex("take(2, 1)", () -> g.take(2, 1));
        for (int heap : OUTSIDE) {
            CHECK.dueIndex("take(" + heap + ", 0)", () -> g.take(heap, 0));
        }
        CHECK.due("nothing changed", before, () -> g.checksum());
        CHECK.due("nothing can be undone", 0, () -> g.size(9));
        CHECK.due("take(0, 5)", 2, () -> g.take(0, 5));
        CHECK.due("take(1, 9)", 6, () -> g.take(1, 9));
        CHECK.dueArgument("take(0, 5) of 2", () -> g.take(0, 5));
        CHECK.due("take(0, 2)", 0, () -> g.take(0, 2));
        CHECK.due("the counters", "0 6", () -> g.heap(0, 1) + " " + g.heap(1, 1));
        CHECK.due("the record", 3, () -> g.size(6));
        CHECK.due("the player who is to move", 1, () -> g.size(7));
        CHECK.due("the changes", 3, () -> g.size(9));
        CHECK.due("the passes", 1, () -> g.size(2));
    }

    private static void takeBoth() {
        HeapGames g = Texts.gameOf("rule a take 60;heap a 7;heap a 5;heap a 1;heap a 15;shared 5 7 1;");
        long before = g.checksum();
        for (int heap : new int[] {4, -1, Integer.MIN_VALUE, Integer.MAX_VALUE}) {
            CHECK.dueIndex("takeBoth(" + heap + ", 0, 9)", () -> g.takeBoth(heap, 0, 9));
            CHECK.dueIndex("takeBoth(0, " + heap + ", 9)", () -> g.takeBoth(0, heap, 9));
            CHECK.dueIndex("takeBoth(" + heap + ", " + heap + ", 1)", () -> g.takeBoth(heap, heap, 1));
        }
        CHECK.dueArgument("takeBoth(0, 0, 1)", () -> g.takeBoth(0, 0, 1));
        for (int amount : new int[] {0, 2, 16, 33, 37, -1, -27, Integer.MIN_VALUE, Integer.MAX_VALUE}) {
            CHECK.dueArgument("takeBoth(0, 3, " + amount + ")", () -> g.takeBoth(0, 3, amount));
        }
        CHECK.dueArgument("takeBoth(0, 1, 7)", () -> g.takeBoth(0, 1, 7));
        CHECK.dueArgument("takeBoth(1, 0, 7)", () -> g.takeBoth(1, 0, 7));
        CHECK.due("nothing changed", before, () -> g.checksum());
        CHECK.due("nothing can be undone", 0, () -> g.size(9));
        CHECK.due("takeBoth(0, 1, 5)", 28 - 10, () -> g.takeBoth(0, 1, 5));
        CHECK.due("takeBoth(3, 2, 1)", 16, () -> g.takeBoth(3, 2, 1));
        CHECK.due("the counters", "2 0 0 14",
                () -> g.heap(0, 1) + " " + g.heap(1, 1) + " " + g.heap(2, 1) + " " + g.heap(3, 1));
        CHECK.due("the lower heap first", "2 3", () -> g.played(1, 1) + " " + g.played(1, 2));
        CHECK.dueArgument("takeBoth(0, 2, 1)", () -> g.takeBoth(0, 2, 1));
        CHECK.due("the changes", 2, () -> g.size(9));
        CHECK.due("the player who is to move", 0, () -> g.size(7));
        HeapGames whole = Texts.gameOf("rule a take 60;heap a 3;heap a 4;heap a 15;heap a 15;shared 3 15;");
        CHECK.due("all of the lower heap", 31, () -> whole.takeBoth(0, 1, 3));
        CHECK.due("15 of both", 1, () -> whole.takeBoth(3, 2, 15));
    }

    private static void pass() {
        HeapGames g = Texts.gameOf("rule a take 2;heap a 3;passes 2;");
        CHECK.due("pass()", 1, () -> g.pass());
        CHECK.due("pass() again", 0, () -> g.pass());
        CHECK.dueState("pass() without passes", () -> g.pass());
        CHECK.due("the counters", 3, () -> g.heap(0, 1));
        CHECK.due("the record", 2, () -> g.size(6));
        CHECK.due("the changes", 2, () -> g.size(9));
        g.setPasses(3);
        g.take(0, 2);
        CHECK.dueState("pass() without another move", () -> g.pass());
        CHECK.due("the passes", 3, () -> g.size(2));
        HeapGames both = Texts.gameOf("rule a take 60;heap a 1;heap a 1;shared 1;passes 1;");
        CHECK.due("pass() beside a shared move alone", 0, () -> both.pass());
        CHECK.dueState("pass() of a new object", () -> new HeapGames().pass());
        HeapGames empty = Texts.gameOf("passes 3;");
        CHECK.dueState("pass() without heaps", () -> empty.pass());
    }

    private static void play() {
        CHECK.dueState("play() of a new object", () -> new HeapGames().play());
        HeapGames g = Texts.gameOf("rule a take 1 2 4;heap a 7;heap a 7;shared 7;");
        CHECK.due("play() takes from both", 6, () -> g.play());
        CHECK.due("the move", "1 0 1 7", () -> g.played(0, 0) + " " + g.played(0, 1) + " " + g.played(0, 2) + " " + g.played(0, 3));
        CHECK.dueState("play() at the end", () -> g.play());
        CHECK.due("the winner", 0, () -> g.size(8));
        HeapGames one = Texts.gameOf("rule a take 1 2 4;heap a 7;");
        CHECK.due("play() of 7", 2, () -> one.play());
        CHECK.due("play() of 3", 0, () -> one.play());
        CHECK.due("play() of 2", 1, () -> one.play());
        CHECK.due("the changes", 3, () -> one.size(9));
        CHECK.due("the winner", 0, () -> one.size(8));
        HeapGames passing = Texts.gameOf("rule a take 1;heap a 2;passes 1;");
        CHECK.due("play() passes", 1, () -> passing.play());
        CHECK.due("the pass in the record", "2 -1 -1 0", () -> passing.played(0, 0) + " " + passing.played(0, 1) + " "
                + passing.played(0, 2) + " " + passing.played(0, 3));
        CHECK.due("the passes", 0, () -> passing.size(2));
    }

    private static void fullRecord() {
        HeapGames g = Texts.gameOf("rule a take 1;heap a 15;heap a 15;shared 1;passes 3;");
        for (int move = 0; move < 39; move++) {
            g.take(0, 1);
            if (g.heap(0, 1) == 0) {
                g.setSize(0, 15);
            }
        }
        CHECK.due("39 moves", 39, () -> g.size(6));
        CHECK.due("the 40th is played", true, () -> g.play() >= 0);
        CHECK.due("40 moves", 40, () -> g.size(6));
        CHECK.due("the player who is to move", 0, () -> g.size(7));
        g.setSize(0, 5);
        long before = g.checksum();
        int changes = g.size(9);
        CHECK.due("take at 40", -1, () -> g.take(0, 1));
        CHECK.due("takeBoth at 40", -1, () -> g.takeBoth(0, 1, 1));
        CHECK.due("pass at 40", -1, () -> g.pass());
        CHECK.due("play at 40", -1, () -> g.play());
        CHECK.dueArgument("exceptions come first: take", () -> g.take(0, 2));
        CHECK.dueIndex("exceptions come first: take of no heap", () -> g.take(2, 1));
        CHECK.dueArgument("exceptions come first: takeBoth", () -> g.takeBoth(0, 1, 2));
        CHECK.dueArgument("exceptions come first: takeBoth of one", () -> g.takeBoth(1, 1, 1));
        CHECK.dueIndex("exceptions come first: takeBoth of no heap", () -> g.takeBoth(0, 2, 1));
        CHECK.due("nothing changed", before, () -> g.checksum());
        CHECK.due("no change is counted", changes, () -> g.size(9));
        CHECK.due("the last move of the record", 0, () -> g.played(39, 0));
        CHECK.dueIndex("no further one", () -> g.played(40, 0));
        g.setPasses(0);
        CHECK.dueState("exceptions come first: pass", () -> g.pass());
        g.setSize(0, 0);
        g.setSize(1, 0);
        CHECK.dueState("exceptions come first: play", () -> g.play());
        CHECK.due("undo", 9, () -> g.undo());
        for (int left = 8; left >= 4; left--) {
            g.undo();
        }
        CHECK.due("moves after undoing", true, () -> g.size(6) < 40);
        CHECK.due("there is room again", true, () -> g.play() >= 0);
    }

    private static void setSize() {
        HeapGames g = Texts.gameOf("rule a take 1;heap a 3;heap a 4;heap a 5;heap a 6;passes 2;");
        for (int size : new int[] {-1, 16, Integer.MIN_VALUE, Integer.MAX_VALUE}) {
            CHECK.dueArgument("setSize(0, " + size + ")", () -> g.setSize(0, size));
            CHECK.dueIndex("setSize(4, " + size + ")", () -> g.setSize(4, size));
        }
        for (int heap : OUTSIDE) {
            CHECK.dueIndex("setSize(" + heap + ", 1)", () -> g.setSize(heap, 1));
        }
        CHECK.due("no change yet", 0, () -> g.size(9));
        CHECK.due("setSize(1, 15)", 4, () -> g.setSize(1, 15));
        CHECK.due("setSize(1, 0)", 15, () -> g.setSize(1, 0));
        CHECK.due("setSize(3, 6)", 6, () -> g.setSize(3, 6));
        CHECK.due("the counters", "3 0 5 6",
                () -> g.heap(0, 1) + " " + g.heap(1, 1) + " " + g.heap(2, 1) + " " + g.heap(3, 1));
        CHECK.due("three changes, the last one too", 3, () -> g.size(9));
        CHECK.due("no move", 0, () -> g.size(6));
        CHECK.due("the passes", 2, () -> g.size(2));
    }

    private static void setPasses() {
        HeapGames g = Texts.gameOf("rule a take 1;heap a 15;heap a 15;heap a 15;heap a 15;passes 2;");
        for (int passes : new int[] {-1, 4, Integer.MIN_VALUE, Integer.MAX_VALUE}) {
            CHECK.dueArgument("setPasses(" + passes + ")", () -> g.setPasses(passes));
        }
        CHECK.due("no change yet", 0, () -> g.size(9));
        CHECK.due("setPasses(3)", 2, () -> g.setPasses(3));
        CHECK.due("setPasses(0)", 3, () -> g.setPasses(0));
        CHECK.due("setPasses(0) again", 0, () -> g.setPasses(0));
        CHECK.due("the passes", 0, () -> g.size(2));
        CHECK.due("three changes", 3, () -> g.size(9));
        CHECK.due("the counters", 15, () -> g.heap(3, 1));
        CHECK.due("no move", 0, () -> g.size(6));
    }

    private static void setMisere() {
        HeapGames g = Texts.gameOf("rule a take 1;heap a 3;");
        CHECK.due("setMisere(false)", false, () -> g.setMisere(false));
        CHECK.due("setMisere(true)", false, () -> g.setMisere(true));
        CHECK.due("setMisere(true) again", true, () -> g.setMisere(true));
        CHECK.due("the ending", 1, () -> g.size(4));
        CHECK.due("it counts", false, () -> g.isWon());
        CHECK.due("setMisere(false)", true, () -> g.setMisere(false));
        CHECK.due("it counts", true, () -> g.isWon());
        CHECK.due("four changes", 4, () -> g.size(9));
    }

    private static void addHeap() {
        HeapGames g = Texts.gameOf("rule a take 1;rule b half;shared 2;passes 3;");
        for (int rule : new int[] {2, -1, Integer.MIN_VALUE, Integer.MAX_VALUE}) {
            CHECK.dueIndex("addHeap(" + rule + ", 1)", () -> g.addHeap(rule, 1));
            CHECK.dueIndex("addHeap(" + rule + ", 16)", () -> g.addHeap(rule, 16));
        }
        for (int size : new int[] {-1, 16, Integer.MIN_VALUE, Integer.MAX_VALUE}) {
            CHECK.dueArgument("addHeap(0, " + size + ")", () -> g.addHeap(0, size));
        }
        CHECK.due("no change yet", 0, () -> g.size(9));
        CHECK.due("addHeap(1, 0)", 0, () -> g.addHeap(1, 0));
        CHECK.due("addHeap(0, 15)", 1, () -> g.addHeap(0, 15));
        CHECK.due("addHeap(1, 15)", 2, () -> g.addHeap(1, 15));
        CHECK.due("addHeap(0, 7)", 3, () -> g.addHeap(0, 7));
        CHECK.dueState("a fifth heap", () -> g.addHeap(0, 7));
        CHECK.dueIndex("a fifth heap of no rule", () -> g.addHeap(2, 7));
        CHECK.dueArgument("a fifth heap with 16", () -> g.addHeap(0, 16));
        CHECK.due("the heaps", "1,0 0,15 1,15 0,7", () -> heaps(g));
        CHECK.due("four changes", 4, () -> g.size(9));
        CHECK.due("the passes", 3, () -> g.size(2));
        CHECK.due("nine takes, three shared moves, the pass", 9 + 3 + 1, () -> g.moves());
        g.removeHeap(0);
        CHECK.due("there is room again", 3, () -> g.addHeap(1, 4));
        CHECK.due("the heaps", "0,15 1,15 0,7 1,4", () -> heaps(g));
        CHECK.dueIndex("addHeap(0, 0) without rules", () -> new HeapGames().addHeap(0, 0));
    }

    private static String heaps(HeapGames g) {
        StringBuilder text = new StringBuilder();
        for (int heap = 0; heap < g.size(1); heap++) {
            text.append(heap == 0 ? "" : " ").append(g.heap(heap, 0)).append(',').append(g.heap(heap, 1));
        }
        return text.toString();
    }

    private static void removeHeap() {
        String text = "rule a take 1;rule b half;rule c powers;rule d squares;heap a 1;heap b 3;heap c 15;heap d 4;passes 3;";
        String[] want = {"1,3 2,15 3,4", "0,1 2,15 3,4", "0,1 1,3 3,4", "0,1 1,3 2,15"};
        for (int heap = 0; heap < 4; heap++) {
            int removed = heap;
            HeapGames g = Texts.gameOf(text);
            CHECK.due("removeHeap(" + heap + ")", 3, () -> g.removeHeap(removed));
            CHECK.due("the heaps without " + heap, want[heap], () -> heaps(g));
            CHECK.due("the passes without " + heap, 3, () -> g.size(2));
            CHECK.dueIndex("removeHeap(3) of 3", () -> g.removeHeap(3));
            CHECK.due("removeHeap(0)", 2, () -> g.removeHeap(0));
            CHECK.due("removeHeap(1)", 1, () -> g.removeHeap(1));
            CHECK.due("removeHeap(0)", 0, () -> g.removeHeap(0));
            CHECK.dueIndex("removeHeap(0) of none", () -> g.removeHeap(0));
            CHECK.due("four changes", 4, () -> g.size(9));
        }
        HeapGames g = Texts.gameOf(text);
        for (int heap : OUTSIDE) {
            CHECK.dueIndex("removeHeap(" + heap + ")", () -> g.removeHeap(heap));
        }
        CHECK.dueIndex("removeHeap(4)", () -> g.removeHeap(4));
        g.take(3, 4);
        g.removeHeap(1);
        CHECK.due("the record keeps its numbers", 3, () -> g.played(0, 1));
    }
}
