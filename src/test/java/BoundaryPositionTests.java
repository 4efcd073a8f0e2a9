import java.util.function.BiFunction;
import java.util.function.Function;

/** The sentences about positions and their moves: Terms (Positions), promises 15 to 26. */
public final class BoundaryPositionTests {
    private static final Sentences DOC = new Sentences();
    private static final int[] FAR = {Integer.MIN_VALUE, Integer.MAX_VALUE};
    // no amount of 60 can be taken from a heap of a position, so such heaps have no takes
    private static final String STILL = "rule s take 60;";

    private BoundaryPositionTests() {
    }

    public static void main(String[] args) {
        whatAPositionHas();
        takes();
        sharedMoves();
        thePass();
        theEnd();
        wonAndLost();
        valueOfAPosition();
        lengthOfAPosition();
        heap();
        nimSum();
        moves();
        moveNumbers();
        moveLeadsTo();
        winning();
        best();
        lostWith();
        lostBelow();
        played();
        askedForWhatIsNotThere();
        DOC.end();
    }

    private static void movesAre(Check c, String text, String due) {
        c.due("the moves of '" + text + "'", due, () -> Sentences.moves(Texts.gameOf(text)));
    }

    private static void answers(Check c, String text, Object due, Function<HeapGames, Object> call) {
        c.due("'" + text + "'", due, () -> call.apply(Texts.gameOf(text)));
    }

    // ---- Terms: positions

    private static void whatAPositionHas() {
        DOC.says("Positions", "A position has 0 to 4 heaps", c -> {
            answers(c, "", "0 0 0", g -> g.size(1) + " " + g.moves() + " " + g.nimSum());
            String four = "rule a take 1;heap a 1;heap a 1;heap a 1;heap a 1;";
            answers(c, four, "4 4 0", g -> g.size(1) + " " + g.moves() + " " + g.nimSum());
            movesAre(c, four, "0 0 -1 1; 0 1 -1 1; 0 2 -1 1; 0 3 -1 1");
        });
        DOC.says("Positions", "each with a rule and 0 to 15 counters", c -> {
            String text = "rule a take 15;rule b powers;heap a 15;heap b 0;heap b 15;heap a 0;";
            answers(c, text, "0:15 1:0 1:15 0:0", Sentences::heaps);
            movesAre(c, text, "0 0 -1 15; 0 2 -1 1; 0 2 -1 2; 0 2 -1 4; 0 2 -1 8");
        });
        DOC.says("Positions", "a number of passes (0 to 3) that are left", c -> {
            for (int passes = 0; passes <= 3; passes++) {
                // 15 takes and the passes go one by one, whatever is chosen
                answers(c, "rule a take 1;heap a 15;passes " + passes + ";", 15 + passes, g -> g.length());
            }
        });
        DOC.says("Positions", "and a set of 0 to 8 shared amounts", c -> {
            String text = STILL + "heap s 15;heap s 15;";
            answers(c, text, 0, g -> g.moves());
            answers(c, text + "shared 15;", 1, g -> g.moves());
            answers(c, text + "shared 1 2 3 4 5 6 7 15;", 8, g -> g.moves());
        });
        DOC.says("Positions", "Heaps are numbered from 0", c -> {
            HeapGames g = Texts.gameOf(STILL + "rule a take 5;heap s 3;heap a 5;");
            c.due("heap 0", 3, () -> g.heap(0, 1));
            c.due("the take from heap 1", "0 1 -1 5", () -> Sentences.moves(g));
        });
    }

    private static void takes() {
        DOC.says("Positions, 1. takes", "an amount is taken from a heap that its rule allows", c -> {
            movesAre(c, "rule a take 3;heap a 2;", "");
            movesAre(c, "rule a take 3;heap a 3;", "0 0 -1 3");
            movesAre(c, "rule a divisors;heap a 1;", "");
            movesAre(c, "rule a divisors;heap a 6;", "0 0 -1 1; 0 0 -1 2; 0 0 -1 3");
            movesAre(c, "rule a half;heap a 5;", "0 0 -1 1; 0 0 -1 2");
            movesAre(c, "rule a powers;heap a 8;", "0 0 -1 1; 0 0 -1 2; 0 0 -1 4; 0 0 -1 8");
            movesAre(c, "rule a squares;heap a 15;", "0 0 -1 1; 0 0 -1 4; 0 0 -1 9");
            movesAre(c, "rule a take 1;rule b take 2;heap b 3;heap a 3;", "0 0 -1 2; 0 1 -1 1");
        });
        DOC.says("Positions, 1. takes", "the lower heap first, of the same heap the lower amount first", c -> {
            movesAre(c, "rule a take 5 1 3;rule b take 2;heap a 5;heap b 2;heap a 3;",
                    "0 0 -1 1; 0 0 -1 3; 0 0 -1 5; 0 1 -1 2; 0 2 -1 1; 0 2 -1 3");
        });
    }

    private static void sharedMoves() {
        DOC.says("Positions, 2. shared moves", "each of two heaps that both have at least so many counters", c -> {
            movesAre(c, STILL + "heap s 4;heap s 4;shared 4;", "1 0 1 4");
            movesAre(c, STILL + "heap s 4;heap s 3;shared 4;", "");
            movesAre(c, STILL + "heap s 3;heap s 4;shared 4;", "");
            movesAre(c, STILL + "heap s 15;heap s 5;shared 4;", "1 0 1 4");
            movesAre(c, STILL + "heap s 15;shared 4;", "");
            movesAre(c, STILL + "heap s 1;heap s 0;shared 1;", "");
        });
        DOC.says("Positions, 2. shared moves", "(whatever their rules are)", c -> {
            movesAre(c, STILL + "rule d divisors;heap s 1;heap d 1;shared 1;", "1 0 1 1");
            movesAre(c, "rule a take 2;rule h half;heap a 15;heap h 15;shared 9;",
                    "0 0 -1 2; 0 1 -1 1; 0 1 -1 2; 0 1 -1 3; 0 1 -1 4; 0 1 -1 5; 0 1 -1 6; 0 1 -1 7; 1 0 1 9");
        });
        DOC.says("Positions, 2. shared moves", "the lower first heap first, then the lower second heap, then the lower amount", c -> {
            movesAre(c, STILL + "heap s 2;heap s 2;heap s 2;heap s 2;shared 2 1;",
                    "1 0 1 1; 1 0 1 2; 1 0 2 1; 1 0 2 2; 1 0 3 1; 1 0 3 2; 1 1 2 1; 1 1 2 2; 1 1 3 1; 1 1 3 2; 1 2 3 1; 1 2 3 2");
        });
        DOC.says("Positions", "Its moves are these, in this order", c -> {
            movesAre(c, "rule a take 1;heap a 1;heap a 1;shared 1;passes 1;", "0 0 -1 1; 0 1 -1 1; 1 0 1 1; 2 -1 -1 0");
        });
    }

    private static void thePass() {
        DOC.says("Positions, 3. the pass", "which takes nothing and makes the passes that are left one fewer", c -> {
            HeapGames g = Texts.gameOf("rule a take 1;heap a 7;heap a 15;passes 3;");
            g.pass();
            c.due("after the pass", "0:7 0:15 2", () -> Sentences.heaps(g) + " " + g.size(2));
            // it leads to 1 counter without passes, which has the value 1 and the length 1
            answers(c, "rule a take 1;heap a 1;passes 1;", "1 0 1", h -> h.move(1, 4) + " " + h.move(1, 5) + " " + h.move(1, 6));
        });
        DOC.says("Positions, 3. the pass", "It is a move only if a pass is left", c -> {
            movesAre(c, "rule a take 1;heap a 1;passes 1;", "0 0 -1 1; 2 -1 -1 0");
            movesAre(c, "rule a take 1;heap a 1;passes 0;", "0 0 -1 1");
            movesAre(c, "rule a take 1;heap a 1;", "0 0 -1 1");
        });
        DOC.says("Positions, 3. the pass", "and there is another move", c -> {
            movesAre(c, "rule a take 1;heap a 0;passes 3;", "");
            movesAre(c, STILL + "heap s 15;heap s 2;shared 3;passes 3;", "");
            movesAre(c, "passes 3;", "");
            movesAre(c, STILL + "heap s 15;heap s 3;shared 3;passes 3;", "1 0 1 3; 2 -1 -1 0");
        });
        DOC.says("Positions", "Two players, 0 and 1, move in turn", c -> {
            HeapGames g = Texts.gameOf("rule a take 1;heap a 5;heap a 5;shared 1;passes 1;");
            c.due("at first", 0, () -> g.size(7));
            g.take(0, 1);
            c.due("after a take", 1, () -> g.size(7));
            g.takeBoth(0, 1, 1);
            c.due("after a shared move", 0, () -> g.size(7));
            g.pass();
            c.due("after the pass", 1, () -> g.size(7));
            g.play();
            c.due("after play", 0, () -> g.size(7));
        });
    }

    private static void theEnd() {
        DOC.says("Positions", "A position without moves is at its end", c -> {
            for (String text : new String[] {"", "passes 3;", STILL + "heap s 15;", STILL + "heap s 0;heap s 0;shared 1;passes 1;"}) {
                answers(c, text, "0 0 0 -1 0 false", g -> g.moves() + " " + g.length() + " " + g.positionValue() + " "
                        + g.best() + " " + g.winning() + " " + (g.size(8) == -1));
            }
        });
        DOC.says("Positions", "In the normal ending, the player who is to move then has lost", c -> {
            answers(c, "", "false 1", g -> g.isWon() + " " + g.size(8));
            answers(c, STILL + "heap s 15;", "false 1", g -> g.isWon() + " " + g.size(8));
        });
        DOC.says("Positions", "in the misere ending, this player has won", c -> {
            answers(c, "misere;", "true 0", g -> g.isWon() + " " + g.size(8));
            answers(c, "misere;" + STILL + "heap s 15;", "true 0", g -> g.isWon() + " " + g.size(8));
        });
    }

    private static void wonAndLost() {
        DOC.says("Positions", "won if the player who is to move can win, whatever the other one does; otherwise it is lost", c -> {
            for (int n = 0; n <= 15; n++) {
                String heap = "rule a take 1 2 3;heap a " + n + ";";
                answers(c, heap, n % 4 != 0, g -> g.isWon());
                answers(c, heap + "misere;", n % 4 != 1, g -> g.isWon());
                answers(c, heap + "heap a " + n + ";", false, g -> g.isWon());
            }
            // one pass more turns 2 single takes, but with 1 counter the taker wins at once
            answers(c, "rule a take 1;heap a 2;passes 1;", true, g -> g.isWon());
            answers(c, "rule a take 1;heap a 2;passes 2;", false, g -> g.isWon());
            answers(c, STILL + "heap s 1;heap s 1;shared 1;", true, g -> g.isWon());
        });
        DOC.says("Positions", "A move is a winning one if it leads to a lost position", c -> {
            answers(c, "rule a take 1 2 3;heap a 6;", "0 1 0", g -> g.move(0, 5) + " " + g.move(1, 5) + " " + g.move(2, 5));
            answers(c, "rule a take 1 2 3;heap a 6;misere;", "1 0 0", g -> g.move(0, 5) + " " + g.move(1, 5) + " " + g.move(2, 5));
        });
    }

    private static void valueOfAPosition() {
        DOC.says("Positions", "the least number from 0 on that is not the value of any position to which a move leads", c -> {
            answers(c, "rule a take 1 2 3;heap a 6;heap a 3;", 1, g -> g.positionValue());
            // the values of 0, 1, 2 counters with a shared amount of 1 beside as many
            answers(c, STILL + "heap s 2;heap s 2;shared 1;", 0, g -> g.positionValue());
            answers(c, STILL + "heap s 2;heap s 2;shared 1 2;", 2, g -> g.positionValue());
            // to 0 (0) and 1 without passes (1)
            answers(c, "rule a take 1;heap a 1;passes 1;", 2, g -> g.positionValue());
            answers(c, "rule a take 1 2 3 4 5 6 7 8;heap a 8;heap a 4;heap a 2;heap a 1;", 15, g -> g.positionValue());
        });
        DOC.says("Positions", "(whatever the ending is)", c -> {
            for (String text : new String[] {"rule a take 1 2 3;heap a 6;heap a 3;", "rule a take 1;heap a 1;passes 1;", ""}) {
                int normal = Texts.gameOf(text).positionValue();
                answers(c, text + "misere;", normal, g -> g.positionValue());
            }
            answers(c, "misere;rule a take 1 2;heap a 2;", "2 0", g -> g.positionValue() + " " + g.move(1, 4));
        });
    }

    private static void lengthOfAPosition() {
        DOC.says("Positions", "The length of a position is 0 at its end", c -> {
            answers(c, STILL + "heap s 15;passes 3;", 0, g -> g.length());
            answers(c, STILL + "heap s 15;passes 3;misere;", 0, g -> g.length());
            answers(c, "", 0, g -> g.length());
        });
        // by take 1 2 4 the lengths of 0 to 8 are 0, 1, 1, 2 (lost), 1, 3, 4 (lost), 3, 5
        DOC.says("Positions", "if it is won, 1 more than the least length of the positions to which its winning moves lead", c -> {
            answers(c, "rule a take 1 2 4;heap a 7;", 3, g -> g.length());
            answers(c, "rule a take 1 2 4;heap a 8;", 5, g -> g.length());
            answers(c, "rule a take 1 2 4;heap a 5;", 3, g -> g.length());
        });
        DOC.says("Positions", "if it is lost, 1 more than the greatest length of the positions to which its moves lead", c -> {
            answers(c, "rule a take 1 2 4;heap a 3;", 2, g -> g.length());
            answers(c, "rule a take 1 2 4;heap a 6;", 4, g -> g.length());
            // 1 is lost after its only move; 4 may go on to 3 or 2, which are won after 2 moves
            answers(c, "rule a take 1 2;heap a 1;misere;", 1, g -> g.length());
            answers(c, "rule a take 1 2;heap a 4;misere;", 3, g -> g.length());
        });
    }

    // ---- promises 15 and 16

    private static void heap() {
        String text = "rule a take 1 3;rule b divisors;heap b 12;heap a 3;heap b 1;heap a 0;";
        DOC.says("Promise 15", "0 its rule, 1 its counters, 2 its value by its rule, 3 the number of amounts", c -> {
            int[][] due = {{1, 12, 2, 5}, {0, 3, 1, 2}, {1, 1, 0, 0}, {0, 0, 0, 0}};
            for (int number = 0; number < 16; number++) {
                int heap = number / 4;
                int what = number % 4;
                answers(c, text, due[heap][what], g -> g.heap(heap, what));
            }
        });
        DOC.says("Promise 15", "Throws IllegalArgumentException if what is out of range", c -> {
            HeapGames g = Texts.gameOf(text);
            for (int what : new int[] {-1, 4, Integer.MIN_VALUE, Integer.MAX_VALUE}) {
                c.dueArgument("heap(0, " + what + ")", () -> g.heap(0, what));
                c.dueArgument("heap(3, " + what + ")", () -> g.heap(3, what));
            }
        });
    }

    private static void nimSum() {
        DOC.says("Promise 16", "the exclusive or of the values of all heaps by their rules", c -> {
            answers(c, "rule a take 1 2 3 4 5 6;rule h half;heap a 5;heap a 3;heap h 14;heap h 8;", 5 ^ 3 ^ 7 ^ 4, g -> g.nimSum());
            answers(c, "rule a take 1 2 3;heap a 3;heap a 3;shared 3;passes 1;", 0, g -> g.nimSum());
            answers(c, "rule a take 1 2 3;heap a 7;", 3, g -> g.nimSum());
            answers(c, "rule a take 1 2 3;heap a 1;heap a 1;heap a 2;heap a 1;shared 1;passes 3;", 3, g -> g.nimSum());
        });
        DOC.says("Promise 16", "0 without heaps", c -> {
            c.due("nimSum()", 0, () -> new HeapGames().nimSum());
            answers(c, "rule a half;shared 1;passes 3;misere;", 0, g -> g.nimSum());
        });
        DOC.says("Promises 18 and 19", "by the present ending", c -> {
            HeapGames g = Texts.gameOf("rule a take 1 2 3;heap a 5;");
            c.due("normal", "true 3", () -> g.isWon() + " " + g.length());
            g.setMisere(true);
            c.due("misere", "false 3", () -> g.isWon() + " " + g.length());
            g.setSize(0, 4);
            c.due("misere 4", "true 2", () -> g.isWon() + " " + g.length());
            g.setMisere(false);
            c.due("normal 4", "false 2", () -> g.isWon() + " " + g.length());
            g.undo();
            c.due("misere 4 again", "true 2", () -> g.isWon() + " " + g.length());
        });
    }

    // ---- promises 20 and 21

    private static void moves() {
        DOC.says("Promise 20", "Counts the moves of the position", c -> {
            answers(c, "", 0, g -> g.moves());
            answers(c, "rule a take 1;heap a 1;", 1, g -> g.moves());
            String most = "rule a take 1 2 3 4 5 6 7 8;heap a 15;heap a 15;heap a 15;heap a 15;shared 1 2 3 11 12 13 14 15;passes 3;";
            answers(c, most, 4 * 8 + 6 * 8 + 1, g -> g.moves());
            answers(c, most, "2 -1 -1 0", g -> g.move(80, 0) + " " + g.move(80, 1) + " " + g.move(80, 2) + " " + g.move(80, 3));
            answers(c, most, "1 2 3 15", g -> g.move(79, 0) + " " + g.move(79, 1) + " " + g.move(79, 2) + " " + g.move(79, 3));
        });
        DOC.says("Promise 21", "Throws IndexOutOfBoundsException if there is no such move", c -> {
            HeapGames g = Texts.gameOf("rule a take 1 2;heap a 2;passes 1;");
            c.dueIndex("move(-1, 0)", () -> g.move(-1, 0));
            c.dueIndex("move(3, 0)", () -> g.move(3, 0));
            for (int index : FAR) {
                c.dueIndex("move(" + index + ", 6)", () -> g.move(index, 6));
            }
            c.due("move(2, 0)", 2, () -> g.move(2, 0));
            g.setPasses(0);
            c.dueIndex("move(2, 0) without the pass", () -> g.move(2, 0));
            g.setSize(0, 0);
            c.dueIndex("move(0, 0) at the end", () -> g.move(0, 0));
        });
        DOC.says("Promise 21", "Throws IllegalArgumentException if what is out of range", c -> {
            HeapGames g = Texts.gameOf("rule a take 1 2;heap a 2;passes 1;");
            for (int what : new int[] {-1, 7, Integer.MIN_VALUE, Integer.MAX_VALUE}) {
                c.dueArgument("move(0, " + what + ")", () -> g.move(0, what));
                c.dueArgument("move(2, " + what + ")", () -> g.move(2, what));
            }
        });
    }

    private static void moveNumbers() {
        String text = "rule a take 1;heap a 1;heap a 2;heap a 2;shared 2;passes 1;";
        DOC.says("Promise 21", "0 its kind: 0 a take, 1 a shared move, 2 the pass", c -> {
            answers(c, text, "0 0 0 1 2", g -> g.move(0, 0) + " " + g.move(1, 0) + " " + g.move(2, 0) + " " + g.move(3, 0)
                    + " " + g.move(4, 0));
        });
        DOC.says("Promise 21", "1 its heap, the first one of a shared move (NONE for the pass)", c -> {
            answers(c, text, "0 1 2 1 -1", g -> g.move(0, 1) + " " + g.move(1, 1) + " " + g.move(2, 1) + " " + g.move(3, 1)
                    + " " + g.move(4, 1));
        });
        DOC.says("Promise 21", "2 the second heap of a shared move (otherwise NONE)", c -> {
            answers(c, text, "-1 -1 -1 2 -1", g -> g.move(0, 2) + " " + g.move(1, 2) + " " + g.move(2, 2) + " " + g.move(3, 2)
                    + " " + g.move(4, 2));
        });
        DOC.says("Promise 21", "3 its amount (0 for the pass)", c -> {
            answers(c, text, "1 1 1 2 0", g -> g.move(0, 3) + " " + g.move(1, 3) + " " + g.move(2, 3) + " " + g.move(3, 3)
                    + " " + g.move(4, 3));
            answers(c, "rule a take 15;heap a 15;heap a 15;shared 15;", "15 15 15", g -> g.move(0, 3) + " " + g.move(1, 3) + " "
                    + g.move(2, 3));
        });
    }

    private static void moveLeadsTo() {
        // 7 by take 1 2 4: to 6 (value 0, lost after 4), 5 (2, won after 3), 3 (0, lost after 2)
        String text = "rule a take 1 2 4;heap a 7;";
        DOC.says("Promise 21", "4 the value of the position to which it leads", c -> {
            answers(c, text, "0 2 0", g -> g.move(0, 4) + " " + g.move(1, 4) + " " + g.move(2, 4));
            answers(c, text + "misere;", "0 2 0", g -> g.move(0, 4) + " " + g.move(1, 4) + " " + g.move(2, 4));
            answers(c, text + "heap a 1;", "1 3 1 1", g -> g.move(0, 4) + " " + g.move(1, 4) + " " + g.move(2, 4) + " " + g.move(3, 4));
        });
        DOC.says("Promise 21", "5 1 if it is a winning one, otherwise 0", c -> {
            answers(c, text, "1 0 1", g -> g.move(0, 5) + " " + g.move(1, 5) + " " + g.move(2, 5));
            // in the misere ending 1 and 4 and 7 are lost
            answers(c, text + "misere;", "0 0 0", g -> g.move(0, 5) + " " + g.move(1, 5) + " " + g.move(2, 5));
        });
        DOC.says("Promise 21", "6 the length of the position to which it leads", c -> {
            answers(c, text, "4 3 2", g -> g.move(0, 6) + " " + g.move(1, 6) + " " + g.move(2, 6));
            // misere: 0 and 1 have 0 and 1, 2 is won after 2, 3 after 2, 4 lost after 3, 5 won after 2, 6 after 4
            answers(c, text + "misere;", "4 2 2", g -> g.move(0, 6) + " " + g.move(1, 6) + " " + g.move(2, 6));
        });
    }

    // ---- promises 22 and 23

    private static void winning() {
        DOC.says("Promise 22", "Counts the winning moves of the position", c -> {
            answers(c, "rule a take 1 2 4;heap a 7;", 2, g -> g.winning());
            answers(c, "rule a take 1 2 4;heap a 6;", 0, g -> g.winning());
            answers(c, "rule a take 1 2 4;heap a 1;heap a 1;heap a 1;", 3, g -> g.winning());
            answers(c, "rule a take 1;heap a 1;heap a 1;shared 1;", 1, g -> g.winning());
            answers(c, "rule a take 1;heap a 1;heap a 1;passes 1;", 1, g -> g.winning());
            answers(c, "rule a take 1;heap a 2;passes 1;", 1, g -> g.winning());
            answers(c, "", 0, g -> g.winning());
            answers(c, "misere;", 0, g -> g.winning());
        });
    }

    private static void best() {
        DOC.says("Promise 23", "of the winning ones the one that leads to the least length", c -> {
            answers(c, "rule a take 1 2 4;heap a 7;", 2, g -> g.best());
            // 8 goes to 7 (won after 3), 6 (lost after 4), 4 (won after 1)
            answers(c, "rule a take 1 2 4;heap a 8;", 1, g -> g.best());
            answers(c, "rule a take 1;heap a 2;passes 1;", 1, g -> g.best());
        });
        DOC.says("Promise 23", "without winning ones, of all moves the one that leads to the greatest length", c -> {
            answers(c, "rule a take 1 2 4;heap a 6;", 0, g -> g.best());
            // 6 by take 1 2 5 goes to 5 (won after 1), 4 (won after 3), 1 (won after 1)
            answers(c, "rule a take 1 2 5;heap a 6;", 1, g -> g.best());
        });
        DOC.says("Promise 23", "of several the one with the lowest index", c -> {
            answers(c, "rule a take 1;heap a 1;heap a 1;heap a 1;", 0, g -> g.best());
            answers(c, "rule a take 1;heap a 1;heap a 1;", 0, g -> g.best());
            answers(c, "rule a take 2 3;heap a 3;", 0, g -> g.best());
            answers(c, STILL + "rule a take 1;heap s 1;heap a 1;shared 1;", 0, g -> g.best());
            // taking 1 loses, taking 2 and the shared 2 both win at once
            answers(c, STILL + "rule a take 1 2;heap a 2;heap s 2;shared 2;", 1, g -> g.best());
            // 8 goes to 7 (won after 1), 6 (won after 3), 5 (won after 3), 1 (won after 1)
            answers(c, "rule a take 1 2 3 7;heap a 8;", 1, g -> g.best());
        });
        DOC.says("Promise 23", "NONE without moves", c -> {
            answers(c, "", -1, g -> g.best());
            answers(c, "misere;", -1, g -> g.best());
            answers(c, STILL + "heap s 15;passes 3;", -1, g -> g.best());
            answers(c, "rule a take 1;heap a 1;", 0, g -> g.best());
        });
    }

    // ---- promises 24 and 25

    private static void lostWith() {
        DOC.says("Promise 24", "these numbers of counters, 0 to 15, as a set of bits", c -> {
            answers(c, "rule a take 1 2 3;heap a 6;", 0x1111, g -> g.lostWith(0));
            answers(c, "rule a take 1;heap a 0;", 0x5555, g -> g.lostWith(0));
            answers(c, "rule a take 1;heap a 15;misere;", 0xAAAA, g -> g.lostWith(0));
            answers(c, STILL + "heap s 7;", 0xFFFF, g -> g.lostWith(0));
            answers(c, STILL + "heap s 7;misere;", 0, g -> g.lostWith(0));
            answers(c, "rule a take 15;heap a 15;", 0x7FFF, g -> g.lostWith(0));
        });
        DOC.says("Promise 24", "all else being as it is", c -> {
            HeapGames g = Texts.gameOf("rule a take 1 2 3;heap a 6;heap a 3;passes 0;");
            String before = Sentences.sight(g);
            c.due("beside 3", 0x8888, () -> g.lostWith(0));
            c.due("beside 6", 0x4444, () -> g.lostWith(1));
            c.due("nothing changes", before, () -> Sentences.sight(g));
            g.setMisere(true);
            c.due("misere beside 3", 0x8888, () -> g.lostWith(0));
            g.setSize(1, 0);
            c.due("misere beside 0", 0x2222, () -> g.lostWith(0));
            // the end is lost, 1 is won by taking it; from 2 on the pass turns even and odd round
            HeapGames passing = Texts.gameOf("rule a take 1;heap a 0;passes 1;");
            c.due("with a pass", 0xAAA9, () -> passing.lostWith(0));
            passing.setPasses(2);
            c.due("with two passes", 0x5555, () -> passing.lostWith(0));
            answers(c, STILL + "heap s 1;heap s 9;shared 1;", 0x0001, h -> h.lostWith(1));
            answers(c, STILL + "heap s 1;heap s 9;", 0xFFFF, h -> h.lostWith(1));
        });
    }

    private static void lostBelow() {
        DOC.says("Promise 25", "with at most as many counters in each as it has now", c -> {
            answers(c, "rule a take 1 2 3;heap a 3;", 1, g -> g.lostBelow());
            answers(c, "rule a take 1 2 3;heap a 4;", 2, g -> g.lostBelow());
            answers(c, "rule a take 1 2 3;heap a 15;", 4, g -> g.lostBelow());
            answers(c, "rule a take 1 2 3;heap a 1;heap a 3;", 2, g -> g.lostBelow());
            answers(c, STILL + "heap s 15;heap s 15;heap s 15;heap s 15;", 65536, g -> g.lostBelow());
            answers(c, STILL + "heap s 0;heap s 15;heap s 1;", 32, g -> g.lostBelow());
            answers(c, "", 1, g -> g.lostBelow());
            answers(c, "misere;", 0, g -> g.lostBelow());
        });
        DOC.says("Promise 25", "and all else as it is", c -> {
            // the lost ones of 0 to 4 single takes with a pass: 0 and 3
            answers(c, "rule a take 1;heap a 4;passes 1;", 2, g -> g.lostBelow());
            answers(c, "rule a take 1;heap a 4;passes 2;", 3, g -> g.lostBelow());
            answers(c, "rule a take 1;heap a 4;", 3, g -> g.lostBelow());
            answers(c, "rule a take 1;heap a 4;misere;", 2, g -> g.lostBelow());
            answers(c, STILL + "heap s 1;heap s 1;", 4, g -> g.lostBelow());
            answers(c, STILL + "heap s 1;heap s 1;shared 1;", 3, g -> g.lostBelow());
        });
        DOC.says("Promise 25", "heap by heap: positions that differ by the order of like heaps are different ones", c -> {
            // 0 0, 0 2, 1 1, 2 0 and 2 2
            answers(c, "rule a take 1;heap a 2;heap a 2;", 5, g -> g.lostBelow());
            // 0 0, 1 2 and 2 1
            answers(c, "rule a take 1 2;heap a 2;heap a 2;shared 1 2;", 3, g -> g.lostBelow());
        });
        DOC.says("Promise 25", "the present position included if it is lost", c -> {
            answers(c, "rule a take 1;heap a 0;", 1, g -> g.lostBelow());
            answers(c, "rule a take 1;heap a 1;", 1, g -> g.lostBelow());
            answers(c, "rule a take 1;heap a 2;", 2, g -> g.lostBelow());
            answers(c, "rule a take 1;heap a 0;misere;", 0, g -> g.lostBelow());
            answers(c, "rule a take 1;heap a 1;misere;", 1, g -> g.lostBelow());
        });
    }

    // ---- promise 26

    private static HeapGames playedGame() {
        HeapGames g = Texts.gameOf("rule a take 1 2 15;heap a 5;heap a 15;heap a 5;shared 3;passes 1;");
        g.take(1, 15);
        g.takeBoth(2, 0, 3);
        g.pass();
        return g;
    }

    private static void played() {
        DOC.says("Promise 26", "0 to 3 as in move(int, int)", c -> {
            c.due("the record", "0 1 -1 15; 1 0 2 3; 2 -1 -1 0", () -> Sentences.record(playedGame()));
        });
        DOC.says("Promise 26", "the index of the move, from 0 for the first one", c -> {
            c.due("played(0, 3)", 15, () -> playedGame().played(0, 3));
            c.due("played(1, 3)", 3, () -> playedGame().played(1, 3));
            c.due("played(2, 3)", 0, () -> playedGame().played(2, 3));
        });
        DOC.says("Promise 26", "Throws IndexOutOfBoundsException if there is no such move in the record", c -> {
            HeapGames g = playedGame();
            c.dueIndex("played(-1, 0)", () -> g.played(-1, 0));
            c.dueIndex("played(3, 0)", () -> g.played(3, 0));
            for (int index : FAR) {
                c.dueIndex("played(" + index + ", 0)", () -> g.played(index, 0));
            }
            g.undo();
            c.dueIndex("played(2, 0) after an undo", () -> g.played(2, 0));
            c.dueIndex("played(0, 0) of a new object", () -> new HeapGames().played(0, 0));
        });
        DOC.says("Promise 26", "Throws IllegalArgumentException if what is out of range", c -> {
            HeapGames g = playedGame();
            for (int what : new int[] {-1, 4, 5, 6, Integer.MIN_VALUE, Integer.MAX_VALUE}) {
                c.dueArgument("played(0, " + what + ")", () -> g.played(0, what));
                c.dueArgument("played(2, " + what + ")", () -> g.played(2, what));
            }
        });
    }

    // ---- exceptions

    private static void askedForWhatIsNotThere() {
        refusesNoHeap("Promise 15", (g, heap) -> g.heap(heap, 0));
        refusesNoHeap("Promise 24", (g, heap) -> g.lostWith(heap));
        for (int number : new int[] {-1, 4, 7, Integer.MIN_VALUE, Integer.MAX_VALUE}) {
            String words = "the exception that is listed first is thrown, with what " + number;
            DOC.says("Promise 15", words, c -> {
                c.dueIndex("heap(3, " + number + ")", () -> playedGame().heap(3, number));
                c.dueIndex("heap(-1, " + number + ")", () -> playedGame().heap(-1, number));
            });
            DOC.says("Promise 21", words, c -> {
                c.dueIndex("move(99, " + number + ")", () -> playedGame().move(99, number));
                c.dueIndex("move(-1, " + number + ")", () -> playedGame().move(-1, number));
            });
            DOC.says("Promise 26", words, c -> {
                c.dueIndex("played(3, " + number + ")", () -> playedGame().played(3, number));
                c.dueIndex("played(-1, " + number + ")", () -> playedGame().played(-1, number));
            });
        }
    }

    private static void refusesNoHeap(String promise, BiFunction<HeapGames, Integer, Object> call) {
        DOC.says(promise, "Throws IndexOutOfBoundsException if there is no such heap", c -> {
            for (int heaps = 0; heaps <= 4; heaps++) {
                HeapGames g = Texts.gameOf("rule a half;" + "heap a 1;".repeat(heaps));
                for (int heap : new int[] {-1, heaps, 4, Integer.MIN_VALUE, Integer.MAX_VALUE}) {
                    c.dueIndex("heap " + heap + " of " + heaps, () -> call.apply(g, heap));
                }
                for (int heap = 0; heap < heaps; heap++) {
                    int asked = heap;
                    c.due("an answer for heap " + heap + " of " + heaps, false,
                            () -> Check.answerOf(() -> call.apply(g, asked)).startsWith("throws"));
                }
            }
        });
    }
}
