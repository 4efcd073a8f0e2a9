/** Promises 4 to 14: size and what is asked about rules. */
public final class RuleTests {
    private static final Check CHECK = new Check();
    private static final String ALL_KINDS =
            "rule t take 4 1 3;rule d divisors;rule h half;rule p powers;rule s squares;rule u take 60;";
    private static final int T = 0;
    private static final int D = 1;
    private static final int H = 2;
    private static final int P = 3;
    private static final int S = 4;
    private static final int U = 5;
    private static final int[] NO_RULES = {-1, 6, Integer.MIN_VALUE, Integer.MAX_VALUE};
    private static final int[] NO_COUNTERS = {-1, 301, Integer.MIN_VALUE, Integer.MAX_VALUE};

    private RuleTests() {
    }

    public static void main(String[] args) {
        size();
        kind(kindsOfRules());
        mayTake();
        amounts(kindsOfRules());
        value();
        heapWith(kindsOfRules());
        greatest(kindsOfRules());
        zeros(kindsOfRules());
        period(kindsOfRules());
        wrongInputs(kindsOfRules());
        CHECK.end();
    }

    /** A new object each time, because nothing is promised of one after its 512th call. */
    private static HeapGames kindsOfRules() {
        return Texts.gameOf(ALL_KINDS);
    }

    private static void size() {
        HeapGames g = Texts.gameOf("rule a take 1;rule b half;heap a 2;shared 15 1;passes 1;");
        Texts.append(g, ";");
        for (int what : new int[] {-1, 10, Integer.MIN_VALUE, Integer.MAX_VALUE}) {
            CHECK.dueArgument("size(" + what + ")", () -> g.size(what));
        }
        sizes(g, 2, 1, 1, 0x8002, 0, 20, 0, 0, -1, 0);
        g.take(0, 1);
        sizes(g, 2, 1, 1, 0x8002, 0, 20, 1, 1, -1, 1);
        g.pass();
        sizes(g, 2, 1, 0, 0x8002, 0, 20, 2, 0, -1, 2);
        g.take(0, 1);
        sizes(g, 2, 1, 0, 0x8002, 0, 20, 3, 1, 0, 3);
        g.setMisere(true);
        sizes(g, 2, 1, 0, 0x8002, 1, 20, 3, 1, 1, 4);
        g.undo();
        g.undo();
        g.setSize(0, 0);
        sizes(g, 2, 1, 0, 0x8002, 0, 20, 2, 0, 1, 3);
        g.setMisere(true);
        g.setPasses(3);
        sizes(g, 2, 1, 3, 0x8002, 1, 20, 2, 0, 0, 5);
    }

    private static void sizes(HeapGames g, int... want) {
        for (int what = 0; what < want.length; what++) {
            int asked = what;
            CHECK.due("size(" + what + ")", want[what], () -> g.size(asked));
        }
    }

    private static void kind(HeapGames g) {
        int[] want = {0, 1, 2, 3, 4, 0};
        for (int rule = 0; rule < want.length; rule++) {
            int asked = rule;
            CHECK.due("kind(" + rule + ")", want[rule], () -> g.kind(asked));
        }
    }

    /** The amounts that may be taken from n are just these. */
    private static void allowed(int rule, int n, int... want) {
        HeapGames g = kindsOfRules();
        for (int amount = -2; amount <= 305; amount++) {
            boolean isAllowed = false;
            for (int each : want) {
                isAllowed |= each == amount;
            }
            int asked = amount;
            CHECK.due("mayTake(" + rule + ", " + n + ", " + amount + ")", isAllowed, () -> g.mayTake(rule, n, asked));
        }
        for (int amount : new int[] {Integer.MIN_VALUE, Integer.MAX_VALUE, 1 << 30, 65, 68}) {
            if (amount > 0 && amount < 100 && n > 60) {
                continue;
            }
            CHECK.due("mayTake(" + rule + ", " + n + ", " + amount + ")", false, () -> g.mayTake(rule, n, amount));
        }
        CHECK.due("amounts(" + rule + ", " + n + ")", want.length, () -> g.amounts(rule, n));
    }

    private static void mayTake() {
        for (int rule = T; rule <= U; rule++) {
            allowed(rule, 0);
        }
        allowed(T, 1, 1);
        allowed(T, 3, 1, 3);
        allowed(T, 4, 1, 3, 4);
        allowed(T, 300, 1, 3, 4);
        allowed(D, 1);
        allowed(D, 2, 1);
        allowed(D, 12, 1, 2, 3, 4, 6);
        allowed(D, 13, 1);
        allowed(D, 300, 1, 2, 3, 4, 5, 6, 10, 12, 15, 20, 25, 30, 50, 60, 75, 100, 150);
        allowed(H, 1);
        allowed(H, 2, 1);
        allowed(H, 9, 1, 2, 3, 4);
        allowed(P, 1, 1);
        allowed(P, 7, 1, 2, 4);
        allowed(P, 8, 1, 2, 4, 8);
        allowed(P, 300, 1, 2, 4, 8, 16, 32, 64, 128, 256);
        allowed(S, 3, 1);
        allowed(S, 4, 1, 4);
        allowed(S, 300, 1, 4, 9, 16, 25, 36, 49, 64, 81, 100, 121, 144, 169, 196, 225, 256, 289);
        allowed(U, 59);
        allowed(U, 60, 60);
    }

    private static void amounts(HeapGames g) {
        int[] want = {3, 17, 150, 9, 17, 1};
        for (int rule = 0; rule < want.length; rule++) {
            int asked = rule;
            CHECK.due("amounts(" + rule + ", 300)", want[rule], () -> g.amounts(asked, 300));
        }
    }

    private static void value() {
        int[] take = {0, 1, 0, 1, 2, 3, 2};
        int[] squares = {0, 1, 0, 1, 2, 0, 1, 0, 1, 2, 0, 1, 0, 1, 2, 0, 1, 0, 1, 2};
        for (int n = 0; n <= 300; n++) {
            int asked = n;
            HeapGames g = kindsOfRules();
            CHECK.due("value of take " + n, take[n % 7], () -> g.value(T, asked));
            CHECK.due("value of divisors " + n, n == 0 ? 0 : Integer.numberOfTrailingZeros(n), () -> g.value(D, asked));
            CHECK.due("value of half " + n, halfValue(n), () -> g.value(H, asked));
            CHECK.due("value of powers " + n, n % 3, () -> g.value(P, asked));
            CHECK.due("value of take 60 " + n, n / 60 % 2, () -> g.value(U, asked));
            if (n < squares.length) {
                CHECK.due("value of squares " + n, squares[n], () -> g.value(S, asked));
            }
        }
    }

    /** An even heap of 2 * k has the value k, an odd one the value of half of it, rounded down. */
    private static int halfValue(int n) {
        return n == 0 ? 0 : n % 2 == 0 ? n / 2 : halfValue(n / 2);
    }

    private static void heapWith(HeapGames g) {
        int[][] rows = {
            {T, 0, 0, 0}, {T, 0, 1, 2}, {T, 0, 2, 7}, {T, 3, 0, 5}, {T, 3, 1, 12}, {T, 3, 42, 299}, {T, 3, 43, -1},
            {T, 4, 0, -1}, {D, 8, 0, 256}, {D, 8, 1, -1}, {D, 7, 1, -1}, {D, 7, 0, 128}, {D, 9, 0, -1}, {H, 150, 0, 300},
            {P, 0, 100, 300}, {P, 0, 101, -1}, {T, 0, -1, -1}, {T, 0, Integer.MIN_VALUE, -1}, {T, 0, Integer.MAX_VALUE, -1},
            {T, -1, 0, -1}, {T, Integer.MAX_VALUE, 0, -1}, {T, Integer.MIN_VALUE, 0, -1}, {U, 1, 0, 60}, {U, 1, 60, 180},
        };
        for (int[] row : rows) {
            CHECK.due("heapWith(" + row[0] + ", " + row[1] + ", " + row[2] + ")", row[3],
                    () -> g.heapWith(row[0], row[1], row[2]));
        }
    }

    private static void greatest(HeapGames g) {
        int[][] rows = {{T, 0, 0}, {T, 3, 1}, {T, 4, 2}, {T, 5, 3}, {T, 300, 3}, {D, 255, 7}, {D, 256, 8}, {D, 300, 8},
            {H, 299, 149}, {H, 300, 150}, {P, 1, 1}, {P, 2, 2}, {P, 300, 2}, {U, 59, 0}, {U, 60, 1}};
        for (int[] row : rows) {
            CHECK.due("greatest(" + row[0] + ", " + row[1] + ")", row[2], () -> g.greatest(row[0], row[1]));
        }
    }

    private static void zeros(HeapGames g) {
        CHECK.due("zeros(T, 0)", 1.0, () -> g.zeros(T, 0));
        CHECK.due("zeros(T, 1)", 0.5, () -> g.zeros(T, 1));
        CHECK.due("zeros(T, 2)", 2.0 / 3.0, () -> g.zeros(T, 2));
        CHECK.due("zeros(T, 6)", 2.0 / 7.0, () -> g.zeros(T, 6));
        CHECK.due("zeros(D, 300)", 151.0 / 301.0, () -> g.zeros(D, 300));
        CHECK.due("zeros(P, 300)", 101.0 / 301.0, () -> g.zeros(P, 300));
        CHECK.due("zeros(U, 59)", 1.0, () -> g.zeros(U, 59));
        CHECK.due("zeros(U, 119)", 0.5, () -> g.zeros(U, 119));
    }

    private static void period(HeapGames g) {
        // rule, up to, period, start, 1 if it is proved
        int[][] rows = {
            {T, 0, -1, -1, 0}, {T, 12, -1, -1, 0}, {T, 13, 7, 0, 1}, {T, 14, 7, 0, 1}, {T, 300, 7, 0, 1},
            {T, 3, 2, 0, 0}, {T, 4, -1, -1, 0},
            {P, 4, -1, -1, 0}, {P, 5, 3, 0, 0}, {P, 300, 3, 0, 0},
            {U, 0, -1, -1, 0}, {U, 1, 1, 0, 0}, {U, 59, 1, 0, 0}, {U, 60, -1, -1, 0}, {U, 61, 1, 60, 0},
            {U, 239, 1, 180, 0}, {U, 240, 120, 0, 1}, {U, 241, 1, 240, 0},
            {D, 1, 1, 0, 0}, {D, 300, -1, -1, 0}, {H, 300, -1, -1, 0},
        };
        for (int[] row : rows) {
            periodIs(g, row[0], row[1], row[2], row[3], row[4] == 1);
        }
        // the values of take 1 7 are 0 1 0 1 and so on, those of take 2 are 0 0 1 1 and so on
        HeapGames other = Texts.gameOf("rule a take 1 7;rule b take 2;");
        periodIs(other, 0, 3, 2, 0, false);
        periodIs(other, 0, 7, 2, 0, false);
        periodIs(other, 0, 8, 2, 0, true);
        periodIs(other, 1, 1, 1, 0, false);
        periodIs(other, 1, 2, -1, -1, false);
        periodIs(other, 1, 3, 1, 2, false);
        periodIs(other, 1, 6, -1, -1, false);
        periodIs(other, 1, 8, 4, 0, true);
        periodIs(other, 1, 9, 1, 8, false);
    }

    private static void periodIs(HeapGames g, int rule, int upTo, int period, int start, boolean isProved) {
        String on = "(" + rule + ", " + upTo + ")";
        CHECK.due("period" + on, period, () -> g.period(rule, upTo));
        CHECK.due("start" + on, start, () -> g.start(rule, upTo));
        CHECK.due("isProved" + on, isProved, () -> g.isProved(rule, upTo));
    }

    private static void wrongInputs(HeapGames g) {
        for (int rule : NO_RULES) {
            CHECK.dueIndex("kind of no rule", () -> g.kind(rule));
            CHECK.dueIndex("heapWith of no rule", () -> g.heapWith(rule, 0, 0));
            for (int n : new int[] {0, 300, -1, 301}) {
                CHECK.dueIndex("mayTake of no rule", () -> g.mayTake(rule, n, 1));
                CHECK.dueIndex("amounts of no rule", () -> g.amounts(rule, n));
                CHECK.dueIndex("value of no rule", () -> g.value(rule, n));
                CHECK.dueIndex("greatest of no rule", () -> g.greatest(rule, n));
                CHECK.dueIndex("zeros of no rule", () -> g.zeros(rule, n));
                CHECK.dueIndex("period of no rule", () -> g.period(rule, n));
                CHECK.dueIndex("start of no rule", () -> g.start(rule, n));
                CHECK.dueIndex("isProved of no rule", () -> g.isProved(rule, n));
            }
        }
        for (int n : NO_COUNTERS) {
            CHECK.dueArgument("mayTake of " + n, () -> g.mayTake(0, n, 1));
            CHECK.dueArgument("amounts of " + n, () -> g.amounts(0, n));
            CHECK.dueArgument("value of " + n, () -> g.value(0, n));
            CHECK.dueArgument("greatest of " + n, () -> g.greatest(0, n));
            CHECK.dueArgument("zeros of " + n, () -> g.zeros(0, n));
            CHECK.dueArgument("period of " + n, () -> g.period(0, n));
            CHECK.dueArgument("start of " + n, () -> g.start(0, n));
            CHECK.dueArgument("isProved of " + n, () -> g.isProved(0, n));
        }
    }
}
