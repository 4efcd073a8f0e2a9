/** Promises 15 to 26: what is asked about the position and the record. */
public final class PositionTests {
    private static final Check CHECK = new Check();
    private static final String NIM = "rule a take 1 2 3 4 5 6 7 8;";

    private PositionTests() {
    }

    public static void main(String[] args) {
        heap();
        nimSum();
        moveOrder();
        passIsTheLast();
        moveTells();
        values();
        normalAndMisereNim();
        wythoff();
        passesTurnTheGame();
        lengths();
        best();
        lostWith();
        lostBelow();
        noHeaps();
        greatestPosition();
        played();
        CHECK.end();
    }

    private static void heap() {
        HeapGames g = Texts.gameOf("rule a take 1 3;rule b divisors;heap b 12;heap a 3;heap b 0;");
        int[][] want = {{1, 12, 2, 5}, {0, 3, 1, 2}, {1, 0, 0, 0}};
        for (int heap = 0; heap < 3; heap++) {
            for (int what = 0; what < 4; what++) {
                int h = heap;
                int w = what;
                CHECK.due("heap(" + h + ", " + w + ")", want[h][w], () -> g.heap(h, w));
            }
        }
        for (int heap : new int[] {-1, 3, 4, Integer.MIN_VALUE, Integer.MAX_VALUE}) {
            CHECK.dueIndex("heap(" + heap + ", 0)", () -> g.heap(heap, 0));
            CHECK.dueIndex("heap(" + heap + ", 9)", () -> g.heap(heap, 9));
            CHECK.dueIndex("lostWith(" + heap + ")", () -> g.lostWith(heap));
        }
        for (int what : new int[] {-1, 4, Integer.MIN_VALUE, Integer.MAX_VALUE}) {
            CHECK.dueArgument("heap(0, " + what + ")", () -> g.heap(0, what));
        }
    }

    private static void nimSum() {
        HeapGames g = Texts.gameOf(NIM + "rule b half;heap a 5;heap a 3;heap b 14;shared 1;passes 1;");
        CHECK.due("nimSum of 5, 3 and 7", 5 ^ 3 ^ 7, () -> g.nimSum());
        g.removeHeap(0);
        CHECK.due("nimSum of 3 and 7", 4, () -> g.nimSum());
        g.removeHeap(0);
        g.removeHeap(0);
        CHECK.due("nimSum of nothing", 0, () -> g.nimSum());
    }

    private static void moveIs(HeapGames g, int index, int... want) {
        for (int what = 0; what < want.length; what++) {
            int asked = what;
            CHECK.due("move(" + index + ", " + what + ")", want[what], () -> g.move(index, asked));
        }
    }

    private static void moveOrder() {
        HeapGames g = Texts.gameOf("rule a take 5 2;rule b half;heap a 6;heap b 4;heap a 2;shared 3 2 9;passes 2;");
        CHECK.due("moves()", 10, () -> g.moves());
        moveIs(g, 0, 0, 0, -1, 2);
        moveIs(g, 1, 0, 0, -1, 5);
        moveIs(g, 2, 0, 1, -1, 1);
        moveIs(g, 3, 0, 1, -1, 2);
        moveIs(g, 4, 0, 2, -1, 2);
        moveIs(g, 5, 1, 0, 1, 2);
        moveIs(g, 6, 1, 0, 1, 3);
        moveIs(g, 7, 1, 0, 2, 2);
        moveIs(g, 8, 1, 1, 2, 2);
        moveIs(g, 9, 2, -1, -1, 0);
        for (int index : new int[] {-1, 10, Integer.MIN_VALUE, Integer.MAX_VALUE}) {
            CHECK.dueIndex("move(" + index + ", 0)", () -> g.move(index, 0));
            CHECK.dueIndex("move(" + index + ", 7)", () -> g.move(index, 7));
        }
        for (int what : new int[] {-1, 7, Integer.MIN_VALUE, Integer.MAX_VALUE}) {
            CHECK.dueArgument("move(9, " + what + ")", () -> g.move(9, what));
        }
        HeapGames four = Texts.gameOf("rule a take 60;heap a 1;heap a 1;heap a 1;heap a 1;shared 1;");
        CHECK.due("moves() of four heaps", 6, () -> four.moves());
        int[][] pairs = {{0, 1}, {0, 2}, {0, 3}, {1, 2}, {1, 3}, {2, 3}};
        for (int index = 0; index < 6; index++) {
            moveIs(four, index, 1, pairs[index][0], pairs[index][1], 1);
        }
    }

    private static void passIsTheLast() {
        HeapGames g = Texts.gameOf("rule a take 3;heap a 2;heap a 3;passes 1;");
        CHECK.due("a take and the pass", 2, () -> g.moves());
        moveIs(g, 1, 2, -1, -1, 0);
        g.setPasses(0);
        CHECK.due("the take alone", 1, () -> g.moves());
        g.setPasses(3);
        g.take(1, 3);
        CHECK.due("no pass without another move", 0, () -> g.moves());
        CHECK.due("best() at the end", -1, () -> g.best());
        CHECK.due("winning() at the end", 0, () -> g.winning());
        CHECK.dueIndex("move(0, 0) at the end", () -> g.move(0, 0));
        CHECK.due("length() at the end", 0, () -> g.length());
        CHECK.due("positionValue() at the end", 0, () -> g.positionValue());
    }

    private static void moveTells() {
        // nim with 1 and 2: taking 1 of the 2 leads to 1 and 1, which is lost and lasts two moves
        HeapGames g = Texts.gameOf(NIM + "heap a 1;heap a 2;");
        CHECK.due("moves()", 3, () -> g.moves());
        moveIs(g, 0, 0, 0, -1, 1, 2, 0, 1);
        moveIs(g, 1, 0, 1, -1, 1, 0, 1, 2);
        moveIs(g, 2, 0, 1, -1, 2, 1, 0, 1);
        g.setMisere(true);
        // a single heap of 2 is won by taking 1; a single heap of 1 is lost in one move
        moveIs(g, 0, 0, 0, -1, 1, 2, 0, 2);
        moveIs(g, 1, 0, 1, -1, 1, 0, 0, 2);
        moveIs(g, 2, 0, 1, -1, 2, 1, 1, 1);
    }

    private static void values() {
        HeapGames g = Texts.gameOf(NIM + "heap a 5;heap a 3;heap a 8;heap a 1;");
        CHECK.due("the value of nim is the nim sum", 5 ^ 3 ^ 8 ^ 1, () -> g.positionValue());
        g.setMisere(true);
        CHECK.due("whatever the ending", 5 ^ 3 ^ 8 ^ 1, () -> g.positionValue());
        HeapGames pair = Texts.gameOf("rule a take 60;heap a 4;heap a 4;shared 1 2 3 4;");
        CHECK.due("shared amounts make the values too", 4, () -> pair.positionValue());
        CHECK.due("though the nim sum is 0", 0, () -> pair.nimSum());
    }

    private static void normalAndMisereNim() {
        for (int sizes = 0; sizes < 5 * 5 * 5; sizes++) {
            HeapGames g = Texts.gameOf(NIM + "heap a 0;heap a 0;heap a 0;");
            int x = sizes % 5;
            int y = sizes / 5 % 5;
            int z = sizes / 25;
            g.setSize(0, x);
            g.setSize(1, y);
            g.setSize(2, z);
            g.setMisere(false);
            boolean isWon = (x ^ y ^ z) != 0;
            CHECK.due("nim of " + x + y + z, isWon, () -> g.isWon());
            g.setMisere(true);
            boolean isSmall = Math.max(x, Math.max(y, z)) <= 1;
            CHECK.due("misere nim of " + x + y + z, isSmall ? (x + y + z) % 2 == 0 : isWon, () -> g.isWon());
        }
    }

    private static void wythoff() {
        HeapGames g = Texts.gameOf(NIM + "heap a 8;heap a 8;shared 1 2 3 4 5 6 7 8;");
        int[] partner = {0, 2, 1, 5, 7, 3, -1, 4, -1};
        CHECK.due("lostBelow()", 7, () -> g.lostBelow());
        for (int x = 0; x <= 8; x++) {
            g.setSize(0, x);
            for (int y = 0; y <= 8; y++) {
                g.setSize(1, y);
                CHECK.due("shared moves of " + x + ", " + y, partner[x] != y, () -> g.isWon());
            }
            int lost = partner[x] < 0 ? 0 : 1 << partner[x];
            CHECK.due("lostWith(1) beside " + x, lost, () -> g.lostWith(1) & 511);
        }
        g.setSize(0, 4);
        g.setSize(1, 7);
        CHECK.due("no winning move", 0, () -> g.winning());
        CHECK.due("lostBelow of 4 and 7: 0 0, 1 2, 2 1, 3 5, 4 7", 5, () -> g.lostBelow());
        g.setSize(1, 8);
        CHECK.due("one winning move of 4 and 8: to 4 and 7", 1, () -> g.winning());
        CHECK.due("it is the best", 1, () -> g.move(g.best(), 5));
    }

    private static void passesTurnTheGame() {
        // a pass that both may still use turns lost and won round, as long as counters are there
        for (int passes = 0; passes <= 3; passes++) {
            HeapGames g = Texts.gameOf("rule a take 1;heap a 2;passes " + passes + ";");
            CHECK.due("two single takes and " + passes + " passes", passes % 2 == 1, () -> g.isWon());
            int length = 2 + passes;
            CHECK.due("the length with " + passes + " passes", length, () -> g.length());
        }
        HeapGames g = Texts.gameOf("rule a take 1;heap a 1;passes 1;");
        CHECK.due("the last counter is taken", 0, () -> g.best());
        CHECK.due("one winning move", 1, () -> g.winning());
        CHECK.due("the value of one counter and a pass", 2, () -> g.positionValue());
        g.setMisere(true);
        CHECK.due("in the misere ending the pass is best", 1, () -> g.best());
        CHECK.due("and leads to the loss of the other one", 2, () -> g.length());
    }

    private static void lengths() {
        HeapGames g = Texts.gameOf("rule a take 1 2;heap a 6;");
        CHECK.due("6 counters are lost after 4 moves", 4, () -> g.length());
        g.setSize(0, 7);
        CHECK.due("7 counters are won after 5", 5, () -> g.length());
        g.setSize(0, 8);
        CHECK.due("8 counters are won after 5", 5, () -> g.length());
        g.setSize(0, 9);
        CHECK.due("9 counters are lost after 6", 6, () -> g.length());
        g.setMisere(true);
        CHECK.due("misere: 9 are won", true, () -> g.isWon());
        CHECK.due("misere: 9 counters, 2 and 3 times 3, then the last", 6, () -> g.length());
        g.setSize(0, 0);
        CHECK.due("misere: the end is won", true, () -> g.isWon());
        CHECK.due("misere: and has the length 0", 0, () -> g.length());
    }

    private static void best() {
        HeapGames won = Texts.gameOf("rule a take 1 2 4;heap a 7;");
        // 7 is won by taking 1 (6 is lost after 4 moves) or 4 (3 is lost after 2)
        CHECK.due("winning() of 7", 2, () -> won.winning());
        CHECK.due("the shorter win", 2, () -> won.best());
        CHECK.due("its length", 3, () -> won.length());
        HeapGames lost = Texts.gameOf("rule a take 1 2 4;heap a 6;");
        // 6 is lost: 5 lasts 3 moves, 4 is won at once, 2 as well
        CHECK.due("no winning move of 6", 0, () -> lost.winning());
        CHECK.due("the longest loss", 0, () -> lost.best());
        CHECK.due("its length", 4, () -> lost.length());
        HeapGames later = Texts.gameOf("rule a take 1 2 5;heap a 6;");
        // 6 is lost: taking 1 or 5 lets the other one win at once, taking 2 leaves 4, which is won after 3 moves
        CHECK.due("a later one if it is longer", 1, () -> later.best());
        CHECK.due("its length", 4, () -> later.length());
        CHECK.due("the first of several that win alike", 0, () -> Texts.gameOf("rule a take 2 3;heap a 3;").best());
        CHECK.due("the first of several that lose alike", 0, () -> Texts.gameOf("rule a take 1;heap a 1;heap a 1;").best());
        HeapGames only = Texts.gameOf("rule a take 1 4;rule b take 3;heap b 3;heap a 4;");
        // only 3 beside 3 is lost: there single takes go on to the end
        CHECK.due("the only winning one, long as it is", 1, () -> only.best());
        CHECK.due("its length", 5, () -> only.length());
    }

    private static void lostWith() {
        HeapGames g = Texts.gameOf("rule a take 1 2 3;heap a 6;");
        CHECK.due("multiples of 4", 0x1111, () -> g.lostWith(0));
        g.setMisere(true);
        CHECK.due("misere: one more", 0x2222, () -> g.lostWith(0));
        g.addHeap(0, 2);
        CHECK.due("misere beside 2", 0x4444, () -> g.lostWith(0));
        CHECK.due("and the other way round, beside 6", 0x4444, () -> g.lostWith(1));
        g.setMisere(false);
        g.setSize(1, 3);
        CHECK.due("beside 3", 0x8888, () -> g.lostWith(0));
        CHECK.due("the position stays", 6, () -> g.heap(0, 1));
        HeapGames all = Texts.gameOf("rule a take 60;heap a 7;passes 3;");
        CHECK.due("all counters without moves", 0xFFFF, () -> all.lostWith(0));
        all.setMisere(true);
        CHECK.due("misere: none", 0, () -> all.lostWith(0));
    }

    private static void lostBelow() {
        HeapGames g = Texts.gameOf("rule a take 1;heap a 3;heap a 2;passes 1;");
        // lost are the end, and sums of 3 and 5: one counter can be taken at once, and of an even
        // sum the pass leaves just as many single takes
        CHECK.due("with a pass: 0 0, 3 0, 2 1, 1 2, 3 2", 5, () -> g.lostBelow());
        g.setPasses(0);
        CHECK.due("without: the even sums", 6, () -> g.lostBelow());
        g.setMisere(true);
        CHECK.due("misere: the odd sums", 6, () -> g.lostBelow());
        g.setSize(0, 0);
        g.setSize(1, 0);
        CHECK.due("misere: the end is won", 0, () -> g.lostBelow());
        HeapGames large = Texts.gameOf("rule a take 60;heap a 15;heap a 15;heap a 15;heap a 15;");
        CHECK.due("16 to the power of 4", 65536, () -> large.lostBelow());
        HeapGames like = Texts.gameOf("rule a take 1 2 3;heap a 1;heap a 2;");
        CHECK.due("0 0 and 1 1", 2, () -> like.lostBelow());
    }

    private static void noHeaps() {
        HeapGames g = Texts.gameOf("rule a half;passes 3;shared 1;");
        CHECK.due("moves()", 0, () -> g.moves());
        CHECK.due("isWon()", false, () -> g.isWon());
        CHECK.due("lostBelow()", 1, () -> g.lostBelow());
        CHECK.due("best()", -1, () -> g.best());
        CHECK.due("the winner", 1, () -> g.size(8));
        g.setMisere(true);
        CHECK.due("misere: isWon()", true, () -> g.isWon());
        CHECK.due("misere: lostBelow()", 0, () -> g.lostBelow());
        CHECK.due("misere: the winner", 0, () -> g.size(8));
        CHECK.due("positionValue()", 0, () -> g.positionValue());
    }

    private static void greatestPosition() {
        HeapGames g = Texts.gameOf("rule a take 1;rule b take 1 2 3 4 5 6 7 8;heap a 15;heap a 15;heap a 15;heap a 15;passes 3;");
        CHECK.due("60 takes and 3 passes", 63, () -> g.length());
        CHECK.due("are won", true, () -> g.isWon());
        CHECK.due("moves()", 5, () -> g.moves());
        Texts.parse(g, "rule p powers;heap p 15;heap p 15;heap p 15;heap p 15;shared 1 2 3 4 5 6 7 8;passes 3;");
        CHECK.due("the most powers and shared moves", 4 * 4 + 6 * 8 + 1, () -> g.moves());
        Texts.parse(g, "rule p take 1 2 3 4 5 6 7 8;heap p 15;heap p 15;heap p 15;heap p 15;shared 1 2 3 4 5 6 7 8;passes 3;");
        CHECK.due("the most moves", 4 * 8 + 6 * 8 + 1, () -> g.moves());
        moveIs(g, 80, 2, -1, -1, 0);
        moveIs(g, 79, 1, 2, 3, 8);
        moveIs(g, 32, 1, 0, 1, 1);
        moveIs(g, 31, 0, 3, -1, 8);
    }

    private static void played() {
        HeapGames g = Texts.gameOf("rule a take 1 2;heap a 5;heap a 5;heap a 5;shared 3;passes 1;");
        CHECK.dueIndex("played(0, 0) of nothing", () -> g.played(0, 0));
        g.take(1, 2);
        g.takeBoth(2, 0, 3);
        g.pass();
        g.setSize(0, 1);
        g.take(0, 1);
        int[][] want = {{0, 1, -1, 2}, {1, 0, 2, 3}, {2, -1, -1, 0}, {0, 0, -1, 1}};
        for (int index = 0; index < 4; index++) {
            for (int what = 0; what < 4; what++) {
                int i = index;
                int w = what;
                CHECK.due("played(" + i + ", " + w + ")", want[i][w], () -> g.played(i, w));
            }
        }
        for (int index : new int[] {-1, 4, 40, Integer.MIN_VALUE, Integer.MAX_VALUE}) {
            CHECK.dueIndex("played(" + index + ", 0)", () -> g.played(index, 0));
            CHECK.dueIndex("played(" + index + ", 4)", () -> g.played(index, 4));
        }
        for (int what : new int[] {-1, 4, 5, 6, Integer.MIN_VALUE, Integer.MAX_VALUE}) {
            CHECK.dueArgument("played(0, " + what + ")", () -> g.played(0, what));
        }
        g.removeHeap(0);
        g.removeHeap(0);
        CHECK.due("the record keeps its numbers", 2, () -> g.played(1, 2));
    }
}
