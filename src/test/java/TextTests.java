/** Promises 1 to 3: a new object, append, parse. */
public final class TextTests {
    private static final Check CHECK = new Check();

    private TextTests() {
    }

    public static void main(String[] args) {
        newObject();
        append();
        bytesOutOfRange();
        goodTexts();
        syntaxErrors();
        repeatedErrors();
        rangeErrors();
        unknownErrors();
        tooManyErrors();
        whatAnErrorLeaves();
        whatATextReplaces();
        CHECK.end();
    }

    private static void newObject() {
        HeapGames g = new HeapGames();
        int[] want = {0, 0, 0, 0, 0, 0, 0, 0, 1, 0};
        for (int what = 0; what < want.length; what++) {
            int asked = what;
            CHECK.due("new: size(" + what + ")", want[what], () -> g.size(asked));
        }
        CHECK.dueIndex("new: kind(0)", () -> g.kind(0));
        CHECK.dueIndex("new: heap(0, 0)", () -> g.heap(0, 0));
        CHECK.due("new: undo()", -1, () -> g.undo());
        CHECK.dueState("new: restoreSnapshot(0)", () -> g.restoreSnapshot(0));
        CHECK.dueState("new: restoreSnapshot(1)", () -> g.restoreSnapshot(1));
        CHECK.due("new: checksum()", 0L, () -> g.checksum());
        CHECK.due("new: parse(0)", 0, () -> g.parse(0));
    }

    private static void append() {
        HeapGames g = new HeapGames();
        // "passes 3;" lies across three arguments, so any other order of the bytes is an error
        CHECK.due("append", 20, () -> g.append(0x70617373, 0x65732033, 0x3B000000, 0, 0x20FFFFFF));
        CHECK.due("parse(9)", 0, () -> g.parse(9));
        CHECK.due("the passes of it", 3, () -> g.size(2));
        for (int length = 20; length <= 400; length += 20) {
            CHECK.due("append up to " + length, length, () -> g.append(0x3B3B3B3B, 0, 0, 0, 0));
        }
        CHECK.due("append beyond 400", -1, () -> g.append(1, 2, 3, 4, 5));
        CHECK.due("length after it", 400, () -> g.size(5));
        CHECK.due("the first byte after it", Texts.error(0, 1), () -> g.parse(400));
        for (int length = 20; length <= 400; length += 20) {
            g.append(0x20202020, 0x20202020, 0x20202020, 0x20202020, 0x20202020);
        }
        g.append(1, 2, 3, 4, 5);
        CHECK.due("400 spaces, the refused bytes not among them", 0, () -> g.parse(400));
        CHECK.due("a negative byte", 20, () -> g.append(-1, -1, -1, -1, -1));
        CHECK.due("is not allowed", Texts.error(0, 1), () -> g.parse(20));
    }

    private static void bytesOutOfRange() {
        HeapGames g = new HeapGames();
        CHECK.dueArgument("parse(1) of nothing", () -> g.parse(1));
        Texts.append(g, "misere;");
        CHECK.dueArgument("parse(-1)", () -> g.parse(-1));
        CHECK.dueArgument("parse(21) of 20", () -> g.parse(21));
        CHECK.dueArgument("parse(MAX)", () -> g.parse(Integer.MAX_VALUE));
        CHECK.dueArgument("parse(MIN)", () -> g.parse(Integer.MIN_VALUE));
        CHECK.due("the buffer after them", 20, () -> g.size(5));
        CHECK.due("parse(7)", 0, () -> g.parse(7));
        CHECK.due("the ending", 1, () -> g.size(4));
        CHECK.due("the rest of the buffer is gone", 0, () -> g.size(5));
        CHECK.due("whole buffer", 20, () -> g.append(0x20202020, 0x20202020, 0x20202020, 0x20202020, 0x20202020));
        CHECK.due("parse(20) of 20", 0, () -> g.parse(20));
    }

    private static void good(String text, int rules) {
        HeapGames g = new HeapGames();
        CHECK.due("'" + text + "'", rules, () -> Texts.parse(g, text));
        CHECK.due("the buffer after '" + text + "'", 0, () -> g.size(5));
    }

    private static void goodTexts() {
        good("", 0);
        good("   ", 0);
        good("misere;", 0);
        good("rule a half;", 1);
        good("  rule   a   half  ;  ", 1);
        good("rule abcdefgh take1 2 3;heap abcdefgh15;shared1;passes3;misere;", 1);
        good("rule rule take 1; rule take take 2; rule heap half; heap heap 0; heap take 3;", 3);
        good("rule a take 1 2 3 4 5 6 7 8;", 1);
        good("rule a take 60;", 1);
        good("rule a take 01 02;", 1);
        good("shared 1 2 3 4 5 6 7 15;", 0);
        good("rule aaaaaaaa half;rule caaaaaaa half;rule aaaaaaab half;rule aaaaaaa half;", 4);
        good("misere;passes 0;shared 8;rule z squares;heap z 00;heap z 07;", 1);
        good("rule a half;rule b half;rule c half;rule d half;rule e half;rule f half;", 6);
        good("rule a half;heap a 1;heap a 2;heap a 3;heap a 4;", 1);
        HeapGames g = Texts.gameOf("passes 2;rule b powers;heap b 9;misere;rule a take 3 1;heap a 4;heap b 2;shared 15 2;");
        int[] want = {2, 3, 2, 1 << 15 | 1 << 2, 1, 0, 0, 0, -1, 0};
        for (int what = 0; what < want.length; what++) {
            int asked = what;
            CHECK.due("read: size(" + what + ")", want[what], () -> g.size(asked));
        }
        int[][] heaps = {{0, 9}, {1, 4}, {0, 2}};
        for (int heap = 0; heap < 3; heap++) {
            int asked = heap;
            CHECK.due("rule of heap " + heap, heaps[heap][0], () -> g.heap(asked, 0));
            CHECK.due("counters of heap " + heap, heaps[heap][1], () -> g.heap(asked, 1));
        }
    }

    private static void bad(String text, int offset, int kind) {
        HeapGames g = new HeapGames();
        CHECK.due("'" + text + "'", Texts.error(offset, kind), () -> Texts.parse(g, text));
        CHECK.due("the buffer after '" + text + "'", 0, () -> g.size(5));
        CHECK.due("the rules after '" + text + "'", 0, () -> g.size(0));
    }

    private static void syntaxErrors() {
        bad(";", 0, 1);
        bad("  ;", 2, 1);
        bad("5;", 0, 1);
        bad("half;", 0, 1);
        bad("rules a half;", 0, 1);
        bad("rul a half;", 0, 1);
        bad("misere", 6, 1);
        bad("misere  ", 8, 1);
        bad("misere misere;", 7, 1);
        bad("misere 1;", 7, 1);
        bad("misere;;", 7, 1);
        bad("rule", 4, 1);
        bad("rulea half;", 0, 1);
        bad("rule abcdefghi half;", 5, 1);
        bad("rule 1 half;", 5, 1);
        bad("rule a1 half;", 6, 1);
        bad("rule A half;", 5, 1);
        bad("rule a", 6, 1);
        bad("rule a ", 7, 1);
        bad("rule a;", 6, 1);
        bad("rule a halfs;", 7, 1);
        bad("rule a divisor;", 7, 1);
        bad("rule a half", 11, 1);
        bad("rule a half 1;", 12, 1);
        bad("rule a take;", 11, 1);
        bad("rule a take", 11, 1);
        bad("rule a take b;", 12, 1);
        bad("rule a take 1", 13, 1);
        bad("rule a take 1,2;", 13, 1);
        bad("rule a take 1 b;", 14, 1);
        bad("rule a take 100;", 12, 1);
        bad("rule a take 1 001;", 14, 1);
        bad("rule a take -1;", 12, 1);
        bad("rule a half;heap a;", 18, 1);
        bad("rule a half;heap 1 1;", 17, 1);
        bad("rule a half;heap a 1 2;", 21, 1);
        bad("rule a half;heap a 123;", 19, 1);
        bad("rule a half;heap a 1", 20, 1);
        bad("rule a half;heap abcdefghi 1;", 17, 1);
        bad("shared;", 6, 1);
        bad("shared", 6, 1);
        bad("passes;", 6, 1);
        bad("passes 1 2;", 9, 1);
        bad("passes 003;", 7, 1);
        bad("misere\t;", 6, 1);
        bad("misere;\u0000", 7, 1);
        bad("misere;\u00e1", 7, 1);
        bad("`", 0, 1);
        bad("{", 0, 1);
        bad("passes /;", 7, 1);
        bad("passes :;", 7, 1);
        // whatever is wrong with the rest of a statement, the first token counts
        bad("rule a take 1 2 3 4 5 6 7 8 009;", 28, 1);
    }

    private static void repeatedErrors() {
        bad("rule a half;rule a half;", 17, 2);
        bad("rule a half;rule b half;rule  a;", 30, 2);
        bad("rule a take 1 1;", 14, 2);
        bad("rule a take 1 01;", 14, 2);
        bad("rule a take 60 3 60;", 17, 2);
        bad("rule a take 1 2 3 4 5 6 7 8 8;", 28, 2);
        bad("shared 2 2;", 9, 2);
        bad("shared 1;shared;", 9, 2);
        bad("passes 0;passes", 9, 2);
        bad("passes 1; passes 2;", 10, 2);
        bad("misere;misere;", 7, 2);
        good("rule a take 1 2;rule b take 1 2;shared 1 2;", 2);
    }

    private static void rangeErrors() {
        bad("rule a take 0;", 12, 3);
        bad("rule a take 61;", 12, 3);
        bad("rule a take 99;", 12, 3);
        bad("rule a take 1 2 3 4 5 6 7 8 61;", 28, 3);
        bad("rule a take 1 2 3 4 5 6 7 8 00;", 28, 3);
        bad("rule a half;heap a 16;", 19, 3);
        bad("rule a half;heap a 99;", 19, 3);
        bad("shared 0;", 7, 3);
        bad("shared 16;", 7, 3);
        bad("shared 1 33;", 9, 3);
        bad("passes 4;", 7, 3);
        bad("passes 99;", 7, 3);
        // sets of bits must not take a great number for one that differs by 64
        bad("rule a take 35 99;", 15, 3);
        bad("rule a take 6 70;", 14, 3);
        bad("shared 1 65;", 9, 3);
    }

    private static void unknownErrors() {
        bad("heap a 1;", 5, 4);
        bad("rule a half;heap b 1;", 17, 4);
        bad("rule a half;heap aa 1;", 17, 4);
        bad("rule aa half;heap a 1;", 18, 4);
        bad("heap a 1;rule a half;", 5, 4);
        bad("rule abcdefgh half;heap bcdefgh 1;", 24, 4);
        bad("rule b half;heap a 99;", 17, 4);
    }

    private static void tooManyErrors() {
        bad("rule a take 1 2 3 4 5 6 7 8 9;", 28, 5);
        bad("shared 1 2 3 4 5 6 7 8 9;", 23, 5);
        bad("rule a half;rule b half;rule c half;rule d half;rule e half;rule f half; rule", 73, 5);
        bad("rule a half;heap a 1;heap a 2;heap a 3;heap a 4;heap b 5;", 48, 5);
    }

    private static void whatAnErrorLeaves() {
        HeapGames g = Texts.gameOf("rule a take 1 2;heap a 5;heap a 3;shared 1;passes 2;misere;");
        g.saveSnapshot(1);
        g.take(0, 2);
        g.pass();
        long before = g.checksum();
        CHECK.due("an error at the end", Texts.error(31, 1),
                () -> Texts.parse(g, "rule b half;heap b 1;passes 0; ;"));
        CHECK.due("the object after it", before, () -> g.checksum());
        CHECK.due("the value after it", 2, () -> g.value(0, 2));
        CHECK.due("what can be undone after it", 2, () -> g.size(9));
        CHECK.due("undo after it", 1, () -> g.undo());
        CHECK.due("the snapshot after it", 2, () -> g.restoreSnapshot(1));
        CHECK.due("a refused text", Texts.error(24, 1), () -> Texts.parse(g, "rule x half;rule y half;;"));
        CHECK.due("its rules are unknown", Texts.error(5, 4), () -> Texts.parse(g, "heap x 1;"));
        CHECK.due("its names are free", 1, () -> Texts.parse(g, "rule x half;heap x 1;"));
        CHECK.due("and so are those of replaced texts", Texts.error(5, 4), () -> Texts.parse(g, "heap a 1;"));
    }

    private static void whatATextReplaces() {
        HeapGames g = Texts.gameOf("rule a take 1 2;rule b half;heap a 5;heap b 3;shared 1;passes 2;misere;");
        g.saveSnapshot(0);
        g.saveSnapshot(1);
        g.take(0, 2);
        CHECK.due("the next text", 1, () -> Texts.parse(g, "rule c squares;heap c 4;"));
        int[] want = {1, 1, 0, 0, 0, 0, 0, 0, -1, 0};
        for (int what = 0; what < want.length; what++) {
            int asked = what;
            CHECK.due("replaced: size(" + what + ")", want[what], () -> g.size(asked));
        }
        CHECK.due("its kind", 4, () -> g.kind(0));
        CHECK.dueIndex("the second rule is gone", () -> g.kind(1));
        CHECK.due("its moves", 2, () -> g.moves());
        CHECK.due("its value", 2, () -> g.positionValue());
        CHECK.due("undo()", -1, () -> g.undo());
        CHECK.dueState("slot 0", () -> g.restoreSnapshot(0));
        CHECK.dueState("slot 1", () -> g.restoreSnapshot(1));
        CHECK.due("an empty text", 0, () -> g.parse(0));
        CHECK.due("empties the object", 0L, () -> g.checksum());
    }
}
