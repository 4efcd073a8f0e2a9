import java.util.function.BiFunction;
import java.util.function.IntFunction;

/** The sentences about what an object holds and about rules: Terms (Rules and values), promises 4 to 14. */
public final class BoundaryRuleTests {
    private static final Sentences DOC = new Sentences();
    private static final String ALL_KINDS =
            "rule t take 4 1 3;rule d divisors;rule h half;rule p powers;rule s squares;rule u take 60;";
    private static final int T = 0;
    private static final int D = 1;
    private static final int H = 2;
    private static final int P = 3;
    private static final int S = 4;
    private static final int U = 5;
    private static final int[] FAR = {Integer.MIN_VALUE, Integer.MAX_VALUE};

    private BoundaryRuleTests() {
    }

    public static void main(String[] args) {
        sizes();
        sizesOfTheGame();
        kinds();
        amountsOfKinds();
        mayTake();
        amounts();
        values();
        heapWith();
        greatest();
        zeros();
        period();
        start();
        isProved();
        noSuchRule();
        DOC.end();
    }

    private static HeapGames kindsOfRules() {
        return Texts.gameOf(ALL_KINDS);
    }

    // ---- promise 4

    private static void sizes() {
        DOC.says("Promise 4", "0 the number of rules", c -> {
            c.due("of none", 0, () -> new HeapGames().size(0));
            c.due("of six", 6, () -> kindsOfRules().size(0));
        });
        DOC.says("Promise 4", "1 the number of heaps", c -> {
            HeapGames g = Texts.gameOf("rule a half;heap a 0;heap a 0;heap a 0;heap a 0;");
            for (int heaps = 4; heaps > 0; heaps--) {
                int due = heaps;
                c.due("size(1)", due, () -> g.size(1));
                g.removeHeap(0);
            }
            c.due("size(1)", 0, () -> g.size(1));
        });
        DOC.says("Promise 4", "2 the passes that are left", c -> {
            HeapGames g = Texts.gameOf("rule a half;heap a 2;passes 3;");
            for (int passes = 3; passes > 0; passes--) {
                int due = passes;
                c.due("size(2)", due, () -> g.size(2));
                g.pass();
            }
            c.due("size(2)", 0, () -> g.size(2));
        });
        DOC.says("Promise 4", "3 the shared amounts, as a set of bits", c -> {
            c.due("none", 0, () -> Texts.gameOf("rule a half;").size(3));
            c.due("1 and 15", 0x8002, () -> Texts.gameOf("shared 15 1;").size(3));
            c.due("8 of them", 0x01FE, () -> Texts.gameOf("shared 1 2 3 4 5 6 7 8;").size(3));
        });
        DOC.says("Conventions", "In sets of bits, bit i stands for the number i", c -> {
            for (int i = 1; i <= 15; i++) {
                HeapGames g = Texts.gameOf("rule a take 60;heap a 0;shared " + i + ";");
                c.due("the set of " + g.size(3), 1 << i, () -> g.size(3));
            }
        });
        DOC.says("Promise 4", "4 1 for the misere ending, otherwise 0", c -> {
            HeapGames g = Texts.gameOf("misere;");
            c.due("misere", 1, () -> g.size(4));
            g.setMisere(false);
            c.due("normal", 0, () -> g.size(4));
        });
        DOC.says("Promise 4", "5 the length of the input buffer", c -> {
            HeapGames g = new HeapGames();
            c.due("empty", 0, () -> g.size(5));
            Texts.append(g, " ".repeat(400));
            c.due("full", 400, () -> g.size(5));
        });
        DOC.says("Promise 4", "Throws IllegalArgumentException if what is out of range", c -> {
            HeapGames g = kindsOfRules();
            c.dueArgument("size(-1)", () -> g.size(-1));
            c.dueArgument("size(10)", () -> g.size(10));
            for (int what : FAR) {
                c.dueArgument("size(" + what + ")", () -> g.size(what));
            }
            c.due("size(9)", 0, () -> g.size(9));
        });
    }

    private static void sizesOfTheGame() {
        DOC.says("Promise 4", "6 the number of moves in the record", c -> {
            HeapGames g = Texts.gameOf("rule a take 1;heap a 15;heap a 15;heap a 15;");
            for (int move = 0; move < 40; move++) {
                int due = move;
                c.due("size(6)", due, () -> g.size(6));
                g.take(move / 15, 1);
            }
            c.due("size(6)", 40, () -> g.size(6));
            g.take(2, 1);
            c.due("size(6)", 40, () -> g.size(6));
        });
        DOC.says("Promise 4", "7 the player who is to move", c -> {
            HeapGames g = Texts.gameOf("rule a take 1;heap a 15;");
            for (int move = 0; move < 5; move++) {
                int due = move % 2;
                c.due("size(7) after " + move, due, () -> g.size(7));
                g.take(0, 1);
            }
        });
        DOC.says("Promise 4", "8 the player who has won", c -> {
            HeapGames g = Texts.gameOf("rule a take 1;heap a 2;");
            g.take(0, 1);
            g.take(0, 1);
            c.due("normal, 0 is to move", 1, () -> g.size(8));
            g.setMisere(true);
            c.due("misere, 0 is to move", 0, () -> g.size(8));
            HeapGames other = Texts.gameOf("rule a take 1;heap a 1;");
            other.take(0, 1);
            c.due("normal, 1 is to move", 0, () -> other.size(8));
            other.setMisere(true);
            c.due("misere, 1 is to move", 1, () -> other.size(8));
        });
        DOC.says("Promise 4", "8 .. (NONE if there is a move)", c -> {
            c.due("a take", -1, () -> Texts.gameOf("rule a take 15;heap a 15;").size(8));
            c.due("no take", 1, () -> Texts.gameOf("rule a take 15;heap a 14;").size(8));
            c.due("a shared move alone", -1, () -> Texts.gameOf("rule a take 60;heap a 15;heap a 15;shared 15;").size(8));
            c.due("no shared move", 1, () -> Texts.gameOf("rule a take 60;heap a 15;heap a 14;shared 15;").size(8));
            c.due("a pass is none by itself", 1, () -> Texts.gameOf("rule a take 60;heap a 15;passes 3;").size(8));
            c.due("without heaps", 1, () -> new HeapGames().size(8));
        });
        DOC.says("Promise 4", "9 the number of changes that can be undone", c -> {
            HeapGames g = Texts.gameOf("rule a take 1;heap a 15;");
            for (int change = 0; change <= 12; change++) {
                int due = Math.min(change, 10);
                c.due("size(9) after " + change, due, () -> g.size(9));
                g.setPasses(1);
            }
            g.undo();
            c.due("size(9) after an undo", 9, () -> g.size(9));
        });
    }

    // ---- promises 5 to 7

    private static void kinds() {
        DOC.says("Rules", "0 take, 1 divisors, 2 half, 3 powers, 4 squares", c -> {
            int[] due = {0, 1, 2, 3, 4, 0};
            for (int rule = 0; rule < 6; rule++) {
                int asked = rule;
                c.due("kind(" + rule + ")", due[rule], () -> kindsOfRules().kind(asked));
            }
        });
        DOC.says("Promise 5", "the number of a rule, from 0 in the order of the text", c -> {
            HeapGames g = Texts.gameOf("rule z squares;rule a half;rule m take 1;");
            c.due("the kinds", "4 2 0", () -> g.kind(0) + " " + g.kind(1) + " " + g.kind(2));
        });
    }

    /** Just these amounts may be taken from n. */
    private static void allows(Check c, int rule, int n, int... amounts) {
        HeapGames g = kindsOfRules();
        StringBuilder due = new StringBuilder();
        for (int amount : amounts) {
            due.append(amount).append(' ');
        }
        c.due("the amounts of rule " + rule + " from " + n, due.toString(), () -> {
            StringBuilder got = new StringBuilder();
            for (int amount = -1; amount <= 302; amount++) {
                got.append(g.mayTake(rule, n, amount) ? amount + " " : "");
            }
            return got.toString();
        });
        c.due("how many of rule " + rule + " from " + n, amounts.length, () -> g.amounts(rule, n));
    }

    private static void amountsOfKinds() {
        DOC.says("Rules", "take (the amounts are those of a set of 1 to 8 numbers)", c -> {
            allows(c, T, 300, 1, 3, 4);
            allows(c, U, 300, 60);
            HeapGames g = Texts.gameOf("rule a take 60 59 1 32 31 33 2 58;");
            c.due("eight", 8, () -> g.amounts(0, 300));
            for (int amount : new int[] {1, 2, 31, 32, 33, 58, 59, 60}) {
                c.due("mayTake " + amount, true, () -> g.mayTake(0, 300, amount));
            }
            for (int amount : new int[] {3, 30, 34, 57, 61, 64, 65, 66, 92, 96, 97, 124}) {
                c.due("mayTake " + amount, false, () -> g.mayTake(0, 300, amount));
            }
        });
        DOC.says("Rules", "divisors (the amounts are the divisors of n that are less than n)", c -> {
            allows(c, D, 1);
            allows(c, D, 2, 1);
            allows(c, D, 3, 1);
            allows(c, D, 4, 1, 2);
            allows(c, D, 12, 1, 2, 3, 4, 6);
            allows(c, D, 299, 1, 13, 23);
            allows(c, D, 300, 1, 2, 3, 4, 5, 6, 10, 12, 15, 20, 25, 30, 50, 60, 75, 100, 150);
        });
        DOC.says("Rules", "half (the amounts are 1 to n / 2, rounded down)", c -> {
            allows(c, H, 1);
            allows(c, H, 2, 1);
            allows(c, H, 3, 1);
            allows(c, H, 4, 1, 2);
            allows(c, H, 9, 1, 2, 3, 4);
            c.due("150 of 300", true, () -> kindsOfRules().mayTake(H, 300, 150));
            c.due("151 of 300", false, () -> kindsOfRules().mayTake(H, 300, 151));
            c.due("149 of 299", true, () -> kindsOfRules().mayTake(H, 299, 149));
            c.due("150 of 299", false, () -> kindsOfRules().mayTake(H, 299, 150));
        });
        DOC.says("Rules", "powers (the amounts are 1, 2, 4, 8 and so on)", c -> {
            allows(c, P, 1, 1);
            allows(c, P, 2, 1, 2);
            allows(c, P, 255, 1, 2, 4, 8, 16, 32, 64, 128);
            allows(c, P, 256, 1, 2, 4, 8, 16, 32, 64, 128, 256);
            allows(c, P, 300, 1, 2, 4, 8, 16, 32, 64, 128, 256);
        });
        DOC.says("Rules", "squares (the amounts are 1, 4, 9 and so on)", c -> {
            allows(c, S, 1, 1);
            allows(c, S, 3, 1);
            allows(c, S, 4, 1, 4);
            allows(c, S, 288, 1, 4, 9, 16, 25, 36, 49, 64, 81, 100, 121, 144, 169, 196, 225, 256);
            allows(c, S, 289, 1, 4, 9, 16, 25, 36, 49, 64, 81, 100, 121, 144, 169, 196, 225, 256, 289);
            allows(c, S, 300, 1, 4, 9, 16, 25, 36, 49, 64, 81, 100, 121, 144, 169, 196, 225, 256, 289);
        });
        DOC.says("Rules", "An amount is always 1 to n", c -> {
            for (int rule = T; rule <= U; rule++) {
                allows(c, rule, 0);
            }
            allows(c, T, 1, 1);
            allows(c, T, 2, 1);
            allows(c, T, 3, 1, 3);
            allows(c, T, 4, 1, 3, 4);
            allows(c, U, 59);
            allows(c, U, 60, 60);
            allows(c, P, 7, 1, 2, 4);
            allows(c, P, 8, 1, 2, 4, 8);
            allows(c, S, 8, 1, 4);
            allows(c, S, 9, 1, 4, 9);
        });
    }

    private static void mayTake() {
        DOC.says("Promise 6", "amount: any number", c -> {
            HeapGames g = kindsOfRules();
            for (int rule = T; rule <= U; rule++) {
                int r = rule;
                for (int amount : new int[] {Integer.MIN_VALUE, -1, 0, 301, 1 << 30, Integer.MAX_VALUE}) {
                    c.due("mayTake(" + r + ", 300, " + amount + ")", false, () -> g.mayTake(r, 300, amount));
                }
            }
            // amounts that differ from allowed ones by 64 or 2 to the power of 32
            c.due("65 by take 1", false, () -> g.mayTake(T, 300, 65));
            c.due("-63 by take 1", false, () -> g.mayTake(T, 300, -63));
            c.due("124 by take 60", false, () -> g.mayTake(U, 300, 124));
            c.due("the square of 46341, which an int cannot hold", false, () -> g.mayTake(S, 300, 46341 * 46341));
        });
        DOC.says("Promise 6", "n: the counters of the heap, 0 to 300", c -> {
            HeapGames g = kindsOfRules();
            c.due("of 0", false, () -> g.mayTake(T, 0, 1));
            c.due("of 300", true, () -> g.mayTake(T, 300, 1));
        });
        outOfRange("Promise 6", n -> kindsOfRules().mayTake(T, n, 1));
    }

    private static void amounts() {
        DOC.says("Promise 7", "n: the counters of the heap, 0 to 300", c -> {
            int[] due = {3, 17, 150, 9, 17, 1};
            for (int rule = T; rule <= U; rule++) {
                int r = rule;
                c.due("amounts(" + r + ", 0)", 0, () -> kindsOfRules().amounts(r, 0));
                c.due("amounts(" + r + ", 300)", due[r], () -> kindsOfRules().amounts(r, 300));
            }
        });
        outOfRange("Promise 7", n -> kindsOfRules().amounts(T, n));
    }

    /** A call with the counters is refused just outside of 0 to 300, and answered at both ends. */
    private static void outOfRange(String promise, IntFunction<Object> call) {
        DOC.says(promise, "Throws IllegalArgumentException if the counters are out of range", c -> {
            for (int n : new int[] {-1, 301, Integer.MIN_VALUE, Integer.MAX_VALUE}) {
                c.dueArgument("with " + n, () -> call.apply(n));
            }
            for (int n : new int[] {0, 300}) {
                c.due("an answer with " + n, false, () -> Check.answerOf(() -> call.apply(n)).startsWith("throws"));
            }
        });
    }

    // ---- promises 8 to 11

    private static void values() {
        DOC.says("Rules", "the least number from 0 on that is not the value of any heap of n - amount counters", c -> {
            int[] take = {0, 1, 0, 1, 2, 3, 2};
            int[] squares = {0, 1, 0, 1, 2, 0, 1, 0, 1, 2, 0, 1, 0, 1, 2, 0, 1, 0, 1, 2};
            int[] half = {0, 0, 1, 0, 2, 1, 3, 0, 4, 2, 5, 1, 6, 3, 7, 0, 8, 4, 9, 2};
            HeapGames g = kindsOfRules();
            for (int n = 0; n < 20; n++) {
                int asked = n;
                c.due("take " + n, take[n % 7], () -> g.value(T, asked));
                c.due("divisors " + n, n == 0 ? 0 : Integer.numberOfTrailingZeros(n), () -> g.value(D, asked));
                c.due("half " + n, half[n], () -> g.value(H, asked));
                c.due("powers " + n, n % 3, () -> g.value(P, asked));
                c.due("squares " + n, squares[n], () -> g.value(S, asked));
            }
        });
        DOC.says("Rules", "(So it is 0 if nothing may be taken.)", c -> {
            HeapGames g = kindsOfRules();
            for (int rule = T; rule <= U; rule++) {
                int r = rule;
                c.due("an empty heap by rule " + r, 0, () -> g.value(r, 0));
            }
            c.due("1 by divisors", 0, () -> g.value(D, 1));
            c.due("1 by half", 0, () -> g.value(H, 1));
            c.due("59 by take 60", 0, () -> g.value(U, 59));
            c.due("60 by take 60", 1, () -> g.value(U, 60));
        });
        DOC.says("Promise 8", "n: the counters of the heap, 0 to 300", c -> {
            int[] due = {2, 2, 150, 0, 3, 1};
            for (int rule = T; rule <= U; rule++) {
                int r = rule;
                c.due("value(" + r + ", 0)", 0, () -> kindsOfRules().value(r, 0));
                c.due("value(" + r + ", 300)", due[r], () -> kindsOfRules().value(r, 300));
            }
        });
        outOfRange("Promise 8", n -> kindsOfRules().value(T, n));
    }

    private static void heapWith() {
        DOC.says("Promise 9", "the index among these heaps, from 0 for the one with the fewest counters", c -> {
            HeapGames g = kindsOfRules();
            c.due("the first 0 of take", 0, () -> g.heapWith(T, 0, 0));
            c.due("the second", 2, () -> g.heapWith(T, 0, 1));
            c.due("the third", 7, () -> g.heapWith(T, 0, 2));
            c.due("the first 3", 5, () -> g.heapWith(T, 3, 0));
            c.due("the second 3", 12, () -> g.heapWith(T, 3, 1));
        });
        DOC.says("Promise 9", "NONE if there is none up to 300", c -> {
            HeapGames g = kindsOfRules();
            c.due("the heap of 300", 300, () -> g.heapWith(H, 150, 0));
            c.due("no further one", -1, () -> g.heapWith(H, 150, 1));
            c.due("one of 302 would be", -1, () -> g.heapWith(H, 151, 0));
            c.due("the 101st 0 of powers", 300, () -> g.heapWith(P, 0, 100));
            c.due("the 102nd would be 303", -1, () -> g.heapWith(P, 0, 101));
            c.due("256 alone has 8", 256, () -> g.heapWith(D, 8, 0));
            c.due("256 alone has 8", -1, () -> g.heapWith(D, 8, 1));
            c.due("a great index", -1, () -> g.heapWith(T, 0, Integer.MAX_VALUE));
        });
        DOC.says("Promise 9", "value: any number", c -> {
            HeapGames g = kindsOfRules();
            for (int value : new int[] {Integer.MIN_VALUE, -1, 4, 301, Integer.MAX_VALUE}) {
                c.due("the value " + value, -1, () -> g.heapWith(T, value, 0));
            }
        });
        DOC.says("Promise 9", "or index is negative", c -> {
            HeapGames g = kindsOfRules();
            c.due("the index -1", -1, () -> g.heapWith(T, 0, -1));
            c.due("the index MIN", -1, () -> g.heapWith(T, 0, Integer.MIN_VALUE));
        });
    }

    private static void greatest() {
        DOC.says("Promise 10", "the greatest value of heaps of 0 to upTo counters", c -> {
            int[][] rows = {{T, 0, 0}, {T, 1, 1}, {T, 3, 1}, {T, 4, 2}, {T, 5, 3}, {T, 6, 3}, {D, 1, 0}, {D, 2, 1},
                {D, 255, 7}, {D, 256, 8}, {H, 0, 0}, {H, 1, 0}, {H, 2, 1}, {U, 59, 0}, {U, 60, 1}};
            for (int[] row : rows) {
                c.due("greatest(" + row[0] + ", " + row[1] + ")", row[2], () -> kindsOfRules().greatest(row[0], row[1]));
            }
        });
        DOC.says("Promise 10", "upTo: the most counters, 0 to 300", c -> {
            c.due("greatest(H, 299)", 149, () -> kindsOfRules().greatest(H, 299));
            c.due("greatest(H, 300)", 150, () -> kindsOfRules().greatest(H, 300));
            c.due("greatest(D, 300)", 8, () -> kindsOfRules().greatest(D, 300));
        });
        outOfRange("Promise 10", n -> kindsOfRules().greatest(T, n));
    }

    private static void zeros() {
        DOC.says("Promise 11", "the number of heaps of 0 to upTo counters with the value 0", c -> {
            c.due("of 0", 1.0, () -> kindsOfRules().zeros(T, 0));
            c.due("of 0 and 1", 0.5, () -> kindsOfRules().zeros(T, 1));
            c.due("of 0 to 59", 1.0, () -> kindsOfRules().zeros(U, 59));
            c.due("of 0 to 119", 0.5, () -> kindsOfRules().zeros(U, 119));
            c.due("of 0 to 300", 151.0 / 301.0, () -> kindsOfRules().zeros(D, 300));
        });
        DOC.says("Promise 11", "divided by the number of all of these, both converted to double", c -> {
            c.due("two of three", 2.0 / 3.0, () -> kindsOfRules().zeros(T, 2));
            c.due("two of seven", 2.0 / 7.0, () -> kindsOfRules().zeros(T, 6));
            c.due("one of three", 1.0 / 3.0, () -> kindsOfRules().zeros(P, 2));
            c.due("101 of 301", 101.0 / 301.0, () -> kindsOfRules().zeros(P, 300));
        });
        outOfRange("Promise 11", n -> kindsOfRules().zeros(T, n));
    }

    // ---- promises 12 to 14

    private static void periodIs(Check c, String rule, int upTo, int period, int start) {
        HeapGames g = Texts.gameOf("rule a " + rule + ";");
        c.due("period of " + rule + " up to " + upTo, period, () -> g.period(0, upTo));
        c.due("start of " + rule + " up to " + upTo, start, () -> g.start(0, upTo));
    }

    private static void period() {
        DOC.says("Rules", "with s + 2 * p <= N + 1", c -> {
            // the values of take 1 3 4 are 0 1 0 1 2 3 2 and so on, those of powers 0 1 2 and so on
            periodIs(c, "take 1 3 4", 13, 7, 0);
            periodIs(c, "take 1 3 4", 12, -1, -1);
            periodIs(c, "powers", 5, 3, 0);
            periodIs(c, "powers", 4, -1, -1);
            periodIs(c, "take 60", 61, 1, 60);
            periodIs(c, "take 60", 60, -1, -1);
        });
        DOC.says("Rules", "the least p from 1 on", c -> {
            periodIs(c, "powers", 300, 3, 0);
            periodIs(c, "take 1", 300, 2, 0);
            // 0 0 1 1 0 0 1 1: at the end 1 1 has the period 1
            periodIs(c, "take 2", 7, 1, 6);
            periodIs(c, "take 2", 8, 4, 0);
            periodIs(c, "take 2", 9, 1, 8);
            periodIs(c, "take 60", 239, 1, 180);
            periodIs(c, "take 60", 240, 120, 0);
        });
        DOC.says("Rules", "the same for each n from s to N - p", c -> {
            // 0 1 0 1 2: what the last one breaks
            periodIs(c, "take 1 3 4", 3, 2, 0);
            periodIs(c, "take 1 3 4", 4, -1, -1);
            // 0 0 1 1 2 2 0 3 1 0 2 1 0 2: from 8 on 1 0 2 comes again, though 3 does not
            periodIs(c, "take 2 4 7", 12, -1, -1);
            periodIs(c, "take 2 4 7", 13, 3, 8);
            // 0 0 1 0 2 0 1 0 3: all but one of the values come again
            periodIs(c, "divisors", 1, 1, 0);
            periodIs(c, "divisors", 3, -1, -1);
            periodIs(c, "divisors", 7, -1, -1);
            periodIs(c, "divisors", 15, -1, -1);
            periodIs(c, "divisors", 300, -1, -1);
        });
        DOC.says("Promise 12", "Returns the period; NONE if there is none", c -> {
            for (int rule = T; rule <= U; rule++) {
                int r = rule;
                c.due("up to 0 by rule " + r, -1, () -> kindsOfRules().period(r, 0));
            }
            c.due("by half up to 300", -1, () -> kindsOfRules().period(H, 300));
            c.due("by half up to 1", 1, () -> kindsOfRules().period(H, 1));
        });
        outOfRange("Promise 12", n -> kindsOfRules().period(T, n));
    }

    private static void start() {
        DOC.says("Rules", "The start is the least such s for this p", c -> {
            periodIs(c, "take 60", 59, 1, 0);
            periodIs(c, "take 60", 100, 1, 60);
            periodIs(c, "take 60", 119, 1, 60);
            periodIs(c, "take 60", 300, 120, 0);
            periodIs(c, "take 1 3 4", 300, 7, 0);
            periodIs(c, "take 2 4 7", 300, 3, 8);
        });
        DOC.says("Rules", "an s from 0 on", c -> {
            periodIs(c, "powers", 6, 3, 0);
            periodIs(c, "take 2", 1, 1, 0);
        });
        DOC.says("Promise 13", "Returns the start; NONE if there is no period", c -> {
            for (int rule = T; rule <= U; rule++) {
                int r = rule;
                c.due("up to 0 by rule " + r, -1, () -> kindsOfRules().start(r, 0));
            }
            c.due("by half up to 300", -1, () -> kindsOfRules().start(H, 300));
            c.due("by take 60 up to 60", -1, () -> kindsOfRules().start(U, 60));
        });
        outOfRange("Promise 13", n -> kindsOfRules().start(T, n));
    }

    private static void proves(Check c, String rule, int upTo, boolean isProved) {
        c.due("isProved of " + rule + " up to " + upTo, isProved, () -> Texts.gameOf("rule a " + rule + ";").isProved(0, upTo));
    }

    private static void isProved() {
        DOC.says("Rules", "The period is proved if the rule is of the kind take", c -> {
            proves(c, "take 1", 300, true);
            proves(c, "take 1 2", 300, true);
            proves(c, "powers", 300, false);
            proves(c, "half", 1, false);
            proves(c, "divisors", 1, false);
            proves(c, "divisors", 13, false);
        });
        DOC.says("Rules", "N - p - s + 1 is at least the greatest number of its set", c -> {
            // the values 0 1 0 1 have the period 2 from 0 on
            proves(c, "take 1 7", 7, false);
            proves(c, "take 1 7", 8, true);
            proves(c, "take 7 1", 7, false);
            proves(c, "take 7 1", 8, true);
            proves(c, "take 1 59", 59, false);
            proves(c, "take 1 59", 60, true);
            // the period 1 from 60 on, up to 119
            proves(c, "take 60", 118, false);
            proves(c, "take 60", 119, false);
            // the period 120 from 0 on
            proves(c, "take 60", 240, true);
            // the period 3 from 8 on
            proves(c, "take 2 4 7", 16, false);
            proves(c, "take 2 4 7", 17, true);
        });
        DOC.says("Promise 14", "Returns whether it is; false if there is no period", c -> {
            for (int rule = T; rule <= U; rule++) {
                int r = rule;
                c.due("up to 0 by rule " + r, false, () -> kindsOfRules().isProved(r, 0));
            }
            proves(c, "take 1 3 4", 12, false);
            proves(c, "take 1 3 4", 13, true);
            proves(c, "take 60", 60, false);
        });
        outOfRange("Promise 14", n -> kindsOfRules().isProved(T, n));
    }

    // ---- exceptions

    private static void noSuchRule() {
        refusesNoRule("Promise 5", (g, rule) -> g.kind(rule));
        refusesNoRule("Promise 6", (g, rule) -> g.mayTake(rule, 1, 1));
        refusesNoRule("Promise 7", (g, rule) -> g.amounts(rule, 1));
        refusesNoRule("Promise 8", (g, rule) -> g.value(rule, 1));
        refusesNoRule("Promise 9", (g, rule) -> g.heapWith(rule, 0, 0));
        refusesNoRule("Promise 10", (g, rule) -> g.greatest(rule, 1));
        refusesNoRule("Promise 11", (g, rule) -> g.zeros(rule, 1));
        refusesNoRule("Promise 12", (g, rule) -> g.period(rule, 1));
        refusesNoRule("Promise 13", (g, rule) -> g.start(rule, 1));
        refusesNoRule("Promise 14", (g, rule) -> g.isProved(rule, 1));
        ruleBeforeCounters("Promise 6", (g, n) -> g.mayTake(6, n, 1));
        ruleBeforeCounters("Promise 7", (g, n) -> g.amounts(6, n));
        ruleBeforeCounters("Promise 8", (g, n) -> g.value(6, n));
        ruleBeforeCounters("Promise 10", (g, n) -> g.greatest(6, n));
        ruleBeforeCounters("Promise 11", (g, n) -> g.zeros(6, n));
        ruleBeforeCounters("Promise 12", (g, n) -> g.period(6, n));
        ruleBeforeCounters("Promise 13", (g, n) -> g.start(6, n));
        ruleBeforeCounters("Promise 14", (g, n) -> g.isProved(6, n));
        DOC.says("Changes", "exceptions come before a result of NONE", c -> {
            HeapGames g = kindsOfRules();
            for (int rule : new int[] {-1, 6}) {
                c.dueIndex("heapWith a negative index", () -> g.heapWith(rule, 0, -1));
                c.dueIndex("heapWith a value that no heap has", () -> g.heapWith(rule, -1, 0));
                c.dueIndex("period up to 0", () -> g.period(rule, 0));
                c.dueIndex("start up to 0", () -> g.start(rule, 0));
                c.dueIndex("isProved up to 0", () -> g.isProved(rule, 0));
            }
        });
    }

    private static void refusesNoRule(String promise, BiFunction<HeapGames, Integer, Object> call) {
        DOC.says(promise, "Throws IndexOutOfBoundsException if there is no such rule", c -> {
            String[] texts = {"", "rule a take 1;", ALL_KINDS};
            for (String text : texts) {
                HeapGames g = Texts.gameOf(text);
                int rules = g.size(0);
                for (int rule : new int[] {-1, rules, 6, Integer.MIN_VALUE, Integer.MAX_VALUE}) {
                    c.dueIndex("rule " + rule + " of " + rules, () -> call.apply(g, rule));
                }
                for (int rule = 0; rule < rules; rule++) {
                    int asked = rule;
                    c.due("an answer for rule " + rule + " of " + rules, false,
                            () -> Check.answerOf(() -> call.apply(g, asked)).startsWith("throws"));
                }
            }
        });
    }

    private static void ruleBeforeCounters(String promise, BiFunction<HeapGames, Integer, Object> call) {
        DOC.says(promise, "the exception that is listed first is thrown", c -> {
            for (int n : new int[] {-1, 301, Integer.MIN_VALUE, Integer.MAX_VALUE}) {
                c.dueIndex("no rule, and " + n + " counters", () -> call.apply(kindsOfRules(), n));
            }
        });
    }
}
