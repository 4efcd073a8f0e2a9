/** The sentences about texts and the input buffer: Terms (Text), promises 1 to 3. */
public final class BoundaryTextTests {
    private static final Sentences DOC = new Sentences();
    private static final String[] KEYWORDS = {
        "rule", "heap", "shared", "passes", "misere", "take", "divisors", "half", "powers", "squares",
    };
    private static final String SIX_RULES =
            "rule a half;rule b half;rule c half;rule d half;rule e half;rule f half;";
    private static final String FOUR_HEAPS = "rule a half;heap a 1;heap a 2;heap a 3;heap a 4;";

    private BoundaryTextTests() {
    }

    public static void main(String[] args) {
        namesAndNumbers();
        spaces();
        statements();
        ranges();
        offsets();
        severalKinds();
        syntax();
        repeatedUnknownTooMany();
        newObject();
        append();
        bytesOfParse();
        answersOfParse();
        whatParseLeaves();
        DOC.end();
    }

    private static void reads(Check c, String text, int rules) {
        c.due("'" + text + "'", rules, () -> Texts.parse(new HeapGames(), text));
    }

    /** The sign ^ marks the place of the error and is no part of the text. */
    private static void refuses(Check c, int kind, String marked) {
        int offset = marked.indexOf('^');
        String text = marked.substring(0, offset) + marked.substring(offset + 1);
        c.due("'" + text + "'", Texts.error(offset, kind), () -> Texts.parse(new HeapGames(), text));
    }

    private static void namesAndNumbers() {
        DOC.says("Text", "A name is a run of 1 to 8 lowercase letters", c -> {
            reads(c, "rule a half;heap a 1;", 1);
            reads(c, "rule z half;heap z 1;", 1);
            reads(c, "rule abcdefgh half;heap abcdefgh 1;", 1);
            refuses(c, 1, "rule ^abcdefghi half;");
            refuses(c, 1, "rule abcdefgh half;heap ^abcdefghi 1;");
            refuses(c, 1, "rule ^A half;");
            refuses(c, 1, "rule a^B half;");
            refuses(c, 1, "rule ^1 half;");
            refuses(c, 1, "rule ^;");
            refuses(c, 1, "rule a half;heap ^1;");
            refuses(c, 1, "rule a half;heap ^A 1;");
        });
        DOC.says("Text", "any such run may be a name", c -> {
            for (String word : KEYWORDS) {
                reads(c, "rule " + word + " take 2;heap " + word + " 1;", 1);
            }
            HeapGames g = Texts.gameOf("rule half take 2;rule take half;heap take 3;heap half 4;");
            c.due("the heaps of 'take' and 'half'", "1:3 0:4", () -> Sentences.heaps(g));
        });
        DOC.says("Text", "numbers: runs of 1 to 2 digits", c -> {
            reads(c, "rule a take 1 02;heap a 3;heap a 03;shared 4 05;passes 03;", 1);
            refuses(c, 1, "rule a take ^001;");
            refuses(c, 1, "rule a take 1 ^002;");
            refuses(c, 1, "rule a half;heap a ^003;");
            refuses(c, 1, "shared ^004;");
            refuses(c, 1, "passes ^003;");
            refuses(c, 1, "passes ^0000000000000003;");
            HeapGames g = Texts.gameOf("rule a take 09;heap a 09;");
            c.due("09 is nine", true, () -> g.mayTake(0, 9, 9));
            c.due("for a heap too", 9, () -> g.heap(0, 1));
        });
        DOC.says("Text", "Each run is as long as possible", c -> {
            refuses(c, 1, "^rulea half;");
            refuses(c, 1, "rule ahalf^;");
            refuses(c, 1, "rule a ^halfa;");
            refuses(c, 1, "^miserepasses 1;");
            refuses(c, 1, "rule a take ^123;");
            refuses(c, 1, "rule ^abcdefghhalf;");
            HeapGames g = Texts.gameOf("rule a take 12;heap a 15;");
            c.due("15 is one number", 15, () -> g.heap(0, 1));
            c.due("12 is no 1", false, () -> g.mayTake(0, 15, 1));
        });
    }

    private static void spaces() {
        DOC.says("Text", "Spaces (byte 32) may precede any token", c -> {
            reads(c, "  rule   a  take  1   2  ;  heap  a   5  ;  shared  1  2  ;  passes  1 ;  misere  ;", 1);
            reads(c, " rule b divisors ; rule c half ; rule d powers ; rule e squares ;", 4);
            for (int other : new int[] {0, 9, 10, 11, 12, 13, 31, 33, 133, 160}) {
                refuses(c, 1, "^" + (char) other + "misere;");
                refuses(c, 1, "misere^" + (char) other + ";");
            }
            refuses(c, 1, "^mis ere;");
            refuses(c, 1, "rule a half;heap a 1 ^5;");
        });
        DOC.says("Text", "and may follow the last one", c -> {
            reads(c, "misere; ", 0);
            reads(c, "rule a half;        ", 1);
            reads(c, " ", 0);
            refuses(c, 1, "misere;^\t");
        });
        DOC.says("Text", "a letter and a digit side by side need none between them", c -> {
            HeapGames g = Texts.gameOf("rule a take1 2;heap a15;shared3;passes2;");
            c.due("all of it is read", "0:15 8 2", () -> Sentences.heaps(g) + " " + g.size(3) + " " + g.size(2));
            refuses(c, 1, "rule a take 1^b;");
            refuses(c, 1, "rule a^1 half;");
            refuses(c, 1, "rule a half;heap a1^heap;");
        });
    }

    private static void statements() {
        DOC.says("Text", "text = { ( .. ) \";\" }", c -> {
            reads(c, "", 0);
            refuses(c, 1, "^;");
            refuses(c, 1, "misere;^;");
            refuses(c, 1, "misere ^passes 1;");
            refuses(c, 1, "rule a half ^rule b half;");
            refuses(c, 1, "rule a take 1 ^heap a 1;");
        });
        DOC.says("Text", "\"take\" amount { amount }, \"shared\" amount { amount }", c -> {
            reads(c, "rule a take 1;shared 1;", 1);
            reads(c, "rule a take 1 2 3 4 5 6 7 8;shared 1 2 3 4 5 6 7 8;", 1);
            refuses(c, 1, "rule a take^;");
            refuses(c, 1, "shared^;");
        });
        DOC.says("Text", "The statements may come in any order", c -> {
            String[] parts = {"rule a take 1 4;", "rule b half;", "shared 2;", "passes 3;", "misere;"};
            for (int turn = 0; turn < parts.length; turn++) {
                StringBuilder text = new StringBuilder();
                for (int part = 0; part < parts.length; part++) {
                    text.append(parts[(part + turn) % parts.length]);
                }
                HeapGames g = Texts.gameOf(text.toString());
                c.due(text + " has", "2 4 3 1", () -> g.size(0) + " " + g.size(3) + " " + g.size(2) + " " + g.size(4));
            }
            reads(c, "misere;rule a half;heap a 1;passes 1;rule b half;heap b 1;heap a 2;shared 1;", 2);
        });
        DOC.says("Text", "A \"heap\" needs a rule that was told before", c -> {
            refuses(c, 4, "heap ^a 1;rule a half;");
            refuses(c, 4, "rule b half;heap ^a 1;rule a half;");
            reads(c, "rule a half;heap a 1;", 1);
        });
        DOC.says("Text", "heaps are numbered in the order in which they are told", c -> {
            HeapGames g = Texts.gameOf("rule a half;heap a 9;rule b half;heap b 3;heap a 0;heap b 15;");
            c.due("the heaps", "0:9 1:3 0:0 1:15", () -> Sentences.heaps(g));
        });
        DOC.says("Text", "\"shared\", \"passes\" and \"misere\" may be told once each", c -> {
            reads(c, "shared 1;passes 0;misere;", 0);
            refuses(c, 2, "shared 1;^shared 2;");
            refuses(c, 2, "passes 0;^passes 0;");
            refuses(c, 2, "misere;^misere;");
            refuses(c, 2, "shared 1;rule a half;passes 1;misere;^shared 1;");
            refuses(c, 2, "passes 3;shared 1;misere;^passes 1;");
            refuses(c, 2, "misere;shared 1;passes 1;^misere;");
        });
        DOC.says("Text", "without them there are no shared amounts, no passes, and the ending is the normal one", c -> {
            HeapGames g = Texts.gameOf("shared 1 2;passes 3;misere;");
            c.due("a text without them", 1, () -> Texts.parse(g, "rule a half;"));
            c.due("shared, passes, misere", "0 0 0", () -> g.size(3) + " " + g.size(2) + " " + g.size(4));
            HeapGames kept = Texts.gameOf("shared 1 2;");
            c.due("shared alone", "6 0 0", () -> kept.size(3) + " " + kept.size(2) + " " + kept.size(4));
            HeapGames passes = Texts.gameOf("passes 2;");
            c.due("passes alone", "0 2 0", () -> passes.size(3) + " " + passes.size(2) + " " + passes.size(4));
            HeapGames misere = Texts.gameOf("misere;");
            c.due("misere alone", "0 0 1", () -> misere.size(3) + " " + misere.size(2) + " " + misere.size(4));
        });
    }

    private static void ranges() {
        DOC.says("Text", "Amounts of a rule are 1 to 60", c -> {
            reads(c, "rule a take 1;rule b take 60;rule c take 60 1;", 3);
            refuses(c, 3, "rule a take ^0;");
            refuses(c, 3, "rule a take ^00;");
            refuses(c, 3, "rule a take ^61;");
            refuses(c, 3, "rule a take ^99;");
            refuses(c, 3, "rule a take 1 ^0;");
            refuses(c, 3, "rule a take 60 ^61;");
            for (int amount = 1; amount <= 60; amount++) {
                reads(c, "rule a take " + amount + ";", 1);
            }
        });
        DOC.says("Text", "sizes 0 to 15", c -> {
            for (int size = 0; size <= 15; size++) {
                int read = size;
                HeapGames g = Texts.gameOf("rule a half;heap a " + size + ";");
                c.due("a heap of " + size, read, () -> g.heap(0, 1));
            }
            refuses(c, 3, "rule a half;heap a ^16;");
            refuses(c, 3, "rule a half;heap a ^99;");
            refuses(c, 3, "rule a half;heap a 15;heap a ^16;");
        });
        DOC.says("Text", "shared amounts 1 to 15", c -> {
            for (int amount = 1; amount <= 15; amount++) {
                int read = 1 << amount;
                HeapGames g = Texts.gameOf("shared " + amount + ";");
                c.due("shared " + amount, read, () -> g.size(3));
            }
            refuses(c, 3, "shared ^0;");
            refuses(c, 3, "shared ^16;");
            refuses(c, 3, "shared 15 ^16;");
            refuses(c, 3, "shared 1 ^60;");
            refuses(c, 3, "shared ^99;");
        });
        DOC.says("Text", "passes 0 to 3", c -> {
            for (int passes = 0; passes <= 3; passes++) {
                int read = passes;
                HeapGames g = Texts.gameOf("passes " + passes + ";");
                c.due("passes " + passes, read, () -> g.size(2));
            }
            refuses(c, 3, "passes ^4;");
            refuses(c, 3, "passes ^04;");
            refuses(c, 3, "passes ^99;");
        });
    }

    private static void offsets() {
        DOC.says("Text", "The first error in a text ends its reading", c -> {
            refuses(c, 4, "heap ^a 99;rule #;");
            refuses(c, 3, "passes ^4;passes 1;;");
            refuses(c, 2, "rule a take 1 ^1 0 100;");
            refuses(c, 3, "rule a take 1 ^0 1 1;");
            refuses(c, 5, FOUR_HEAPS + "^heap b 99;;");
            refuses(c, 5, SIX_RULES + "^rule a nothing;;");
            refuses(c, 2, "rule a half;rule ^a nothing;");
            refuses(c, 4, "rule a half;heap ^b 123;");
        });
        DOC.says("Text", "The offset of an error is that of the first byte of its token", c -> {
            refuses(c, 1, "^halfs;");
            refuses(c, 1, "   ^halfs;");
            refuses(c, 1, "rule   a    ^nothing;");
            refuses(c, 2, "rule a half;  rule   ^a half;");
            refuses(c, 3, "rule a half;heap   a   ^16;");
            refuses(c, 4, "rule a half;heap    ^bcd 1;");
            refuses(c, 5, SIX_RULES + "   ^rule g half;");
            refuses(c, 5, "shared 1 2 3 4 5 6 7 8    ^10;");
        });
        DOC.says("Text", "or the length of the text if the text ends too early", c -> {
            String[] starts = {
                "rule", "rule ", "rule a", "rule a  ", "rule a take", "rule a take  ", "rule a take 1", "rule a take 1 2 ",
                "rule a half", "rule a half ", "rule a half;heap", "rule a half;heap a", "rule a half;heap a ",
                "rule a half;heap a 1", "rule a half;heap a 1   ", "shared", "shared 1", "shared 1 ", "passes", "passes ",
                "passes 1", "passes 1  ", "misere", "misere    ", "misere;passes",
            };
            for (String start : starts) {
                refuses(c, 1, start + "^");
            }
            HeapGames g = new HeapGames();
            Texts.append(g, "misere;misere;");
            c.due("bytes tells where the text ends, not the buffer", Texts.error(6, 1), () -> g.parse(6));
            Texts.append(g, "misere    ;");
            c.due("spaces behind the end of the text do not count", Texts.error(6, 1), () -> g.parse(6));
            Texts.append(g, "misere    ;");
            c.due("spaces of the text do", Texts.error(8, 1), () -> g.parse(8));
        });
    }

    private static void severalKinds() {
        String heading = "Text, several kinds of error at one offset";
        DOC.says(heading, "syntax before repeated", c -> {
            refuses(c, 1, "shared 1 ^shared 2;");
            refuses(c, 1, "passes 1 ^passes 2;");
            refuses(c, 1, "misere ^misere;");
            refuses(c, 1, "shared 1;misere ^shared 2;");
        });
        DOC.says(heading, "syntax before range", c -> {
            refuses(c, 1, "rule a take ^100;");
            refuses(c, 1, "rule a take ^000;");
            refuses(c, 1, "rule a half;heap a ^160;");
            refuses(c, 1, "shared ^016;");
            refuses(c, 1, "passes ^400;");
        });
        DOC.says(heading, "syntax before unknown", c -> refuses(c, 1, "rule a half;heap ^bcdefghij 1;"));
        DOC.says(heading, "syntax before too many", c -> {
            refuses(c, 1, "rule a take 1 2 3 4 5 6 7 8 ^009;");
            refuses(c, 1, "shared 1 2 3 4 5 6 7 8 ^009;");
            refuses(c, 1, SIX_RULES.substring(0, SIX_RULES.length() - 1) + " ^rule g half;");
            refuses(c, 1, FOUR_HEAPS.substring(0, FOUR_HEAPS.length() - 1) + " ^heap a 1;");
        });
        DOC.says(heading, "repeated before too many", c -> {
            refuses(c, 2, "rule a take 1 2 3 4 5 6 7 8 ^1;");
            refuses(c, 2, "shared 1 2 3 4 5 6 7 8 ^8;");
        });
        DOC.says(heading, "range before too many", c -> {
            refuses(c, 3, "rule a take 1 2 3 4 5 6 7 8 ^0;");
            refuses(c, 3, "rule a take 1 2 3 4 5 6 7 8 ^61;");
            refuses(c, 3, "shared 1 2 3 4 5 6 7 8 ^0;");
            refuses(c, 3, "shared 1 2 3 4 5 6 7 8 ^16;");
        });
    }

    private static boolean isLetter(int value) {
        return value >= 'a' && value <= 'z';
    }

    private static boolean isDigit(int value) {
        return value >= '0' && value <= '9';
    }

    private static void syntax() {
        DOC.says("Text, 1 (syntax)", "a byte that is not allowed here: where a statement begins", c -> {
            for (int value = 0; value < 256; value++) {
                if (value == ' ') {
                    reads(c, "misere; ", 0);
                } else {
                    refuses(c, 1, "^" + (char) value);
                    refuses(c, 1, "misere;^" + (char) value);
                }
            }
        });
        DOC.says("Text, 1 (syntax)", "a byte that is not allowed here: in place of a name", c -> {
            for (int value = 0; value < 256; value++) {
                if (isLetter(value)) {
                    reads(c, "rule " + (char) value + " half;", 1);
                } else if (value != ' ') {
                    refuses(c, 1, "rule ^" + (char) value + " half;");
                }
            }
        });
        DOC.says("Text, 1 (syntax)", "a byte that is not allowed here: in place of a number", c -> {
            for (int value = 0; value < 256; value++) {
                if (isDigit(value)) {
                    reads(c, "rule a take 1" + (char) value + ";", 1);
                } else if (value != ' ') {
                    refuses(c, 1, "rule a take ^" + (char) value + ";");
                }
            }
        });
        DOC.says("Text, 1 (syntax)", "a byte that is not allowed here: in place of a semicolon", c -> {
            for (int value = 0; value < 256; value++) {
                if (value == ';') {
                    reads(c, "misere" + (char) value, 0);
                } else if (isLetter(value)) {
                    refuses(c, 1, "^misere" + (char) value);
                } else if (value != ' ') {
                    refuses(c, 1, "misere^" + (char) value);
                }
            }
        });
        DOC.says("Text, 1 (syntax)", "run, keyword or end that is not allowed here", c -> {
            for (String word : KEYWORDS) {
                refuses(c, 1, "misere ^" + word);
                refuses(c, 1, "passes ^" + word);
                refuses(c, 1, "shared 1 ^" + word);
                refuses(c, 1, "rule a take 1 ^" + word);
                refuses(c, 1, "rule a half ^" + word);
                refuses(c, 1, "^" + word + word);
            }
            for (String word : new String[] {"rule", "heap", "shared", "passes", "misere", "hal", "squaress"}) {
                refuses(c, 1, "rule a ^" + word + ";");
            }
            for (String word : new String[] {"take", "divisors", "half", "powers", "squares", "rul", "miser", "12"}) {
                refuses(c, 1, "^" + word + ";");
            }
            for (String word : new String[] {"rule a half;", "heap a 1;", "shared 1;", "passes 1;", "misere;"}) {
                for (int letter = 0; letter < word.indexOf(word.contains(" ") ? ' ' : ';'); letter++) {
                    refuses(c, 1, "rule a half;^" + word.substring(0, letter) + 'z' + word.substring(letter + 1));
                }
            }
            for (String word : new String[] {"take", "divisors", "half", "powers", "squares"}) {
                for (int letter = 0; letter < word.length(); letter++) {
                    refuses(c, 1, "rule a ^" + word.substring(0, letter) + 'z' + word.substring(letter + 1) + " 1;");
                }
            }
            refuses(c, 1, "misere ^1;");
            refuses(c, 1, "passes 1 ^2;");
            refuses(c, 1, "rule a half ^2;");
            refuses(c, 1, "rule a half;heap a 1 ^2;");
            refuses(c, 1, "misere^");
        });
    }

    private static void repeatedUnknownTooMany() {
        DOC.says("Text, 2 (repeated)", "the name of an earlier rule in \"rule\"", c -> {
            refuses(c, 2, "rule a half;rule ^a half;");
            refuses(c, 2, "rule abcdefgh half;rule b half;rule ^abcdefgh take 1;");
            reads(c, "rule abcdefgh half;rule abcdefg half;rule bcdefgh half;rule abcdefgi half;rule bbcdefgh half;", 5);
            reads(c, "rule a half;rule aa half;rule aaa half;", 3);
        });
        DOC.says("Text, 2 (repeated)", "an amount that stands in the same statement already", c -> {
            refuses(c, 2, "rule a take 1 ^1;");
            refuses(c, 2, "rule a take 60 1 ^60;");
            refuses(c, 2, "rule a take 5 ^05;");
            refuses(c, 2, "shared 15 1 ^15;");
            reads(c, "rule a take 1 2;rule b take 1 2;shared 1 2;", 2);
            reads(c, "rule a take 1 33;rule b take 28 60;", 2);
        });
        DOC.says("Text, 2 (repeated)", "the word \"shared\", \"passes\" or \"misere\" a second time", c -> {
            refuses(c, 2, "shared 1;^shared");
            refuses(c, 2, "passes 0;^passes");
            refuses(c, 2, "misere;^misere");
        });
        DOC.says("Text, 4 (unknown)", "a name in \"heap\" that no rule has", c -> {
            refuses(c, 4, "heap ^a 1;");
            refuses(c, 4, "rule ab half;heap ^a 1;");
            refuses(c, 4, "rule a half;heap ^ab 1;");
            refuses(c, 4, "rule abcdefgh half;heap ^abcdefgg 1;");
            refuses(c, 4, "rule abcdefgh half;heap ^bbcdefgh 1;");
            refuses(c, 4, "rule b half;heap ^half 1;");
        });
        DOC.says("Text, 5 (too many)", "the word \"rule\" of a seventh one", c -> {
            reads(c, SIX_RULES, 6);
            refuses(c, 5, SIX_RULES + "^rule g half;");
            refuses(c, 5, SIX_RULES + "^rule");
            reads(c, SIX_RULES + "heap f 1;", 6);
        });
        DOC.says("Text, 5 (too many)", "the word \"heap\" of a fifth one", c -> {
            reads(c, FOUR_HEAPS, 1);
            refuses(c, 5, FOUR_HEAPS + "^heap a 5;");
            refuses(c, 5, FOUR_HEAPS + "^heap");
            reads(c, FOUR_HEAPS + "rule b half;", 2);
        });
        DOC.says("Text, 5 (too many)", "a ninth amount of a statement", c -> {
            reads(c, "rule a take 1 2 3 4 5 6 7 8;", 1);
            refuses(c, 5, "rule a take 1 2 3 4 5 6 7 8 ^9;");
            refuses(c, 5, "rule a take 1 2 3 4 5 6 7 8 ^60 61 ;");
            reads(c, "shared 1 2 3 4 5 6 7 8;", 0);
            refuses(c, 5, "shared 1 2 3 4 5 6 7 8 ^9;");
            reads(c, "rule a take 1 2 3 4 5 6 7 8;rule b take 1;shared 9;", 2);
        });
    }

    private static void newObject() {
        DOC.says("Promise 1", "without rules", c -> {
            HeapGames g = new HeapGames();
            c.due("size(0)", 0, () -> g.size(0));
            c.dueIndex("kind(0)", () -> g.kind(0));
            c.dueIndex("value(0, 0)", () -> g.value(0, 0));
            c.dueIndex("addHeap(0, 0)", () -> g.addHeap(0, 0));
        });
        DOC.says("Promise 1", "heaps", c -> {
            HeapGames g = new HeapGames();
            c.due("size(1)", 0, () -> g.size(1));
            c.dueIndex("heap(0, 0)", () -> g.heap(0, 0));
            c.due("moves()", 0, () -> g.moves());
            c.due("isWon()", false, () -> g.isWon());
        });
        DOC.says("Promise 1", "shared amounts and passes, with the normal ending", c -> {
            HeapGames g = new HeapGames();
            c.due("size(3)", 0, () -> g.size(3));
            c.due("size(2)", 0, () -> g.size(2));
            c.due("size(4)", 0, () -> g.size(4));
            c.due("setPasses(0)", 0, () -> g.setPasses(0));
            c.due("setMisere(false)", false, () -> g.setMisere(false));
        });
        DOC.says("Promise 1", "and an empty input buffer", c -> {
            HeapGames g = new HeapGames();
            c.due("size(5)", 0, () -> g.size(5));
            c.dueArgument("parse(1)", () -> g.parse(1));
            c.due("parse(0)", 0, () -> g.parse(0));
        });
        DOC.says("Promise 1", "Creates an object: no record, nothing to undo, both slots empty", c -> {
            HeapGames g = new HeapGames();
            c.due("the record", "0 0", () -> g.size(6) + " " + g.size(7));
            c.due("size(9)", 0, () -> g.size(9));
            c.due("undo()", -1, () -> g.undo());
            c.dueState("slot 0", () -> g.restoreSnapshot(0));
            c.dueState("slot 1", () -> g.restoreSnapshot(1));
            c.due("an object apart from others", 0, () -> {
                HeapGames other = new HeapGames();
                Texts.parse(other, "rule a half;heap a 3;");
                return g.size(0);
            });
        });
    }

    private static void append() {
        DOC.says("Promise 2", "the four bytes of each argument, the most significant byte first", c -> {
            HeapGames g = new HeapGames();
            // "rule ab half;misere;"
            g.append(0x72756C65, 0x20616220, 0x68616C66, 0x3B6D6973, 0x6572653B);
            c.due("parse(20)", 1, () -> g.parse(20));
            c.due("the ending", 1, () -> g.size(4));
            // the same with the first byte of one argument above 127
            for (int place = 0; place < 5; place++) {
                int[] four = {0x20202020, 0x20202020, 0x20202020, 0x20202020, 0x20202020};
                four[place] = 0xE0202020;
                g.append(four[0], four[1], four[2], four[3], four[4]);
                int offset = 4 * place;
                c.due("a byte above 127 at " + offset, Texts.error(offset, 1), () -> g.parse(20));
            }
        });
        DOC.says("Promise 2", "Returns the new length of the buffer", c -> {
            HeapGames g = new HeapGames();
            for (int length = 20; length <= 400; length += 20) {
                int due = length;
                c.due("append", due, () -> g.append(0, 0, 0, 0, 0));
                c.due("size(5)", due, () -> g.size(5));
            }
            g.parse(400);
            c.due("append after parse", 20, () -> g.append(0, 0, 0, 0, 0));
        });
        DOC.says("Promise 2", "NONE, with the buffer unchanged, if it would exceed 400", c -> {
            HeapGames g = new HeapGames();
            Texts.append(g, "misere;" + " ".repeat(393));
            c.due("append at 400", -1, () -> g.append(-1, -1, -1, -1, -1));
            c.due("append at 400 again", -1, () -> g.append(0, 0, 0, 0, 0));
            c.due("size(5)", 400, () -> g.size(5));
            c.due("parse(400)", 0, () -> g.parse(400));
            c.due("the text was kept", 1, () -> g.size(4));
        });
        DOC.says("Text", "The input buffer has at most 400 bytes", c -> {
            HeapGames g = new HeapGames();
            Texts.append(g, " ".repeat(380));
            c.due("bytes 380 to 399", 400, () -> g.append(0x20202020, 0x20202020, 0x20202020, 0x206D6973, 0x6572653B));
            c.due("are read", 0, () -> g.parse(400));
            c.due("to the last one", 1, () -> g.size(4));
        });
    }

    private static void bytesOfParse() {
        DOC.says("Promise 3", "Reads the first bytes of the input buffer as a text", c -> {
            HeapGames g = new HeapGames();
            Texts.append(g, "passes 1;passes 2;");
            c.due("the first nine of twenty", 0, () -> g.parse(9));
            c.due("are read", 1, () -> g.size(2));
            Texts.append(g, "passes 12;");
            c.due("eight of ten, so the text ends too early", Texts.error(8, 1), () -> g.parse(8));
        });
        DOC.says("Promise 3", "bytes: the number of bytes to read, 0 to the length of the buffer", c -> {
            HeapGames g = new HeapGames();
            c.due("parse(0) of 0", 0, () -> g.parse(0));
            Texts.append(g, "misere;");
            c.due("parse(0) of 20", 0, () -> g.parse(0));
            c.due("reads nothing", 0, () -> g.size(4));
            Texts.append(g, " ".repeat(20));
            c.due("parse(20) of 20", 0, () -> g.parse(20));
            Texts.append(g, " ".repeat(400));
            c.due("parse(400) of 400", 0, () -> g.parse(400));
        });
        DOC.says("Promise 3", "Throws IllegalArgumentException if bytes is out of range", c -> {
            HeapGames g = new HeapGames();
            c.dueArgument("parse(-1) of 0", () -> g.parse(-1));
            c.dueArgument("parse(1) of 0", () -> g.parse(1));
            Texts.append(g, " ".repeat(40));
            c.dueArgument("parse(-1)", () -> g.parse(-1));
            c.dueArgument("parse(41)", () -> g.parse(41));
            c.dueArgument("parse(MIN)", () -> g.parse(Integer.MIN_VALUE));
            c.dueArgument("parse(MAX)", () -> g.parse(Integer.MAX_VALUE));
            Texts.append(g, " ".repeat(360));
            c.dueArgument("parse(401)", () -> g.parse(401));
        });
        DOC.says("Promise 3", "the buffer is unchanged then", c -> {
            HeapGames g = new HeapGames();
            Texts.append(g, "misere;");
            c.dueArgument("parse(21)", () -> g.parse(21));
            c.dueArgument("parse(-1)", () -> g.parse(-1));
            c.due("size(5)", 20, () -> g.size(5));
            c.due("parse(7)", 0, () -> g.parse(7));
            c.due("the text was kept", 1, () -> g.size(4));
        });
    }

    private static void answersOfParse() {
        DOC.says("Promise 3", "Returns the number of rules", c -> {
            reads(c, "passes 1;misere;", 0);
            reads(c, "rule a half;", 1);
            reads(c, "rule a half;rule b half;rule c half;", 3);
            reads(c, SIX_RULES, 6);
        });
        DOC.says("Promise 3", "for an error, -2 minus (8 * offset + kind)", c -> {
            c.due("syntax at 0", -3, () -> Texts.parse(new HeapGames(), "#"));
            c.due("repeated at 7", -60, () -> Texts.parse(new HeapGames(), "misere;misere;"));
            c.due("range at 7", -61, () -> Texts.parse(new HeapGames(), "passes 4;"));
            c.due("unknown at 5", -46, () -> Texts.parse(new HeapGames(), "heap a 1;"));
            c.due("too many at 23", -191, () -> Texts.parse(new HeapGames(), "shared 1 2 3 4 5 6 7 8 9;"));
            c.due("syntax at 400", -3203, () -> Texts.parse(new HeapGames(), " ".repeat(394) + "misere"));
            c.due("syntax at 399", -3195, () -> Texts.parse(new HeapGames(), " ".repeat(399) + "#"));
        });
    }

    private static HeapGames playedGame() {
        HeapGames g = Texts.gameOf("rule a take 1 2;rule b half;heap a 9;heap b 8;shared 3;passes 2;misere;");
        g.saveSnapshot(0);
        g.saveSnapshot(1);
        g.take(0, 2);
        g.pass();
        g.setSize(1, 7);
        return g;
    }

    private static void whatParseLeaves() {
        DOC.says("Promise 3", "a text, which replaces everything", c -> {
            HeapGames g = playedGame();
            c.due("the next text", 1, () -> Texts.parse(g, "rule c squares;heap c 4;"));
            c.due("what is there", "1 1 0 0 0 0 0 0 -1 0 0:4 " + (((1L * 31 + 4) * 31 + 1) * 31 * 31 + 4) * 31 * 31 * 31 * 31,
                    () -> Sentences.sight(g));
            c.due("the kind of its rule", 4, () -> g.kind(0));
            c.due("its values", 2, () -> g.value(0, 4));
            c.dueIndex("no second rule", () -> g.kind(1));
            c.dueIndex("no second heap", () -> g.heap(1, 0));
            c.dueIndex("no record", () -> g.played(0, 0));
            c.due("its moves", "0 0 -1 1; 0 0 -1 4", () -> Sentences.moves(g));
            c.due("its position", "true 1 2", () -> g.isWon() + " " + g.length() + " " + g.positionValue());
            HeapGames emptied = playedGame();
            c.due("the empty text", 0, () -> emptied.parse(0));
            c.due("leaves nothing", "0 0 0 0 0 0 0 0 1 0  0", () -> Sentences.sight(emptied));
            c.due("not even the ending", "false 0 1", () -> emptied.isWon() + " " + emptied.moves() + " " + emptied.lostBelow());
        });
        DOC.says("Promise 3", "everything: a rule of the same number, name and kind too", c -> {
            HeapGames g = Texts.gameOf("rule a take 1;heap a 2;heap a 2;");
            c.due("take 1", "false 0 2 0", () -> g.isWon() + " " + g.positionValue() + " " + g.moves() + " " + g.value(0, 2));
            Texts.parse(g, "rule a take 1 2;heap a 2;heap a 1;");
            c.due("take 1 2", "true 3 3 2", () -> g.isWon() + " " + g.positionValue() + " " + g.moves() + " " + g.value(0, 2));
            Texts.parse(g, "rule a take 1 2;heap a 2;heap a 1;shared 1;");
            c.due("and shared 1", "false 0 4 2", () -> g.isWon() + " " + g.positionValue() + " " + g.moves() + " " + g.value(0, 2));
            Texts.parse(g, "rule a half;heap a 2;heap a 1;");
            c.due("half", "true 1 1 1", () -> g.isWon() + " " + g.positionValue() + " " + g.moves() + " " + g.value(0, 2));
        });
        DOC.says("Promise 3", "everything: nothing of an earlier text comes back in a later one", c -> {
            String full = "rule a take 1;rule b half;heap a 5;heap b 8;shared 3;passes 3;misere;";
            for (String between : new String[] {"rule c squares;", full, full + "#", "passes 2;heap", ""}) {
                HeapGames g = Texts.gameOf(full);
                g.take(0, 1);
                Texts.parse(g, between);
                c.due("an empty text after '" + between + "'", 0, () -> g.parse(0));
                c.due("leaves nothing", "0 0 0 0 0 0 0 0 1 0  0", () -> Sentences.sight(g));
                c.due("a heap", 1, () -> Texts.parse(g, "rule d half;heap d 3;"));
                c.due("alone", "1 1 0 0 0 0 0 0 -1 0 0:3 " + ((((1L * 31 + 2) * 31 + 1) * 31 * 31 + 3) * 31 * 31 * 31 * 31),
                        () -> Sentences.sight(g));
                c.due("and passes", 0, () -> Texts.parse(g, "passes 1;"));
                c.due("alone", "0 0 1 0 0 0 0 0 1 0  " + 31 * 31 * 31, () -> Sentences.sight(g));
            }
        });
        DOC.says("Promise 3", "On an error nothing changes but the buffer", c -> {
            String[] wrong = {
                "rule x half;heap x 1;passes 0;shared 1;#", "rule x half;rule x half;", "passes 4;",
                "rule x half;heap y 1;", "shared 1 2 3 4 5 6 7 8 9;", "misere",
            };
            for (String text : wrong) {
                HeapGames g = playedGame();
                String before = Sentences.sight(g);
                Texts.parse(g, text);
                c.due("after '" + text + "'", before, () -> Sentences.sight(g));
                c.due("the kinds", "0 2", () -> g.kind(0) + " " + g.kind(1));
                c.due("the values", "2 2", () -> g.value(0, 2) + " " + g.value(1, 4));
                c.due("the moves", 2 + 3 + 1 + 1, () -> g.moves());
                c.due("undo()", 2, () -> g.undo());
                c.due("slot 0", 2, () -> g.restoreSnapshot(0));
                c.due("slot 1", 2, () -> g.restoreSnapshot(1));
                c.due("the heaps of the snapshot", "0:9 1:8", () -> Sentences.heaps(g));
            }
        });
        DOC.says("Promise 3", "The buffer is empty afterwards in both cases", c -> {
            HeapGames g = new HeapGames();
            Texts.append(g, "misere;misere;misere;");
            c.due("a text", 0, () -> g.parse(7));
            c.due("size(5) after it", 0, () -> g.size(5));
            c.dueArgument("nothing is left to read", () -> g.parse(1));
            Texts.append(g, "misere;misere;misere;");
            c.due("an error", Texts.error(7, 2), () -> g.parse(14));
            c.due("size(5) after it", 0, () -> g.size(5));
            c.dueArgument("nothing is left to read", () -> g.parse(1));
            Texts.append(g, "passes 2;");
            c.due("the next text begins at 0", 0, () -> g.parse(9));
            c.due("and is read", 2, () -> g.size(2));
        });
        DOC.says("Changes", "A successful parse clears the undo history and empties both snapshot slots", c -> {
            HeapGames g = playedGame();
            c.due("changes before", 3, () -> g.size(9));
            g.parse(0);
            c.due("changes", 0, () -> g.size(9));
            c.due("undo()", -1, () -> g.undo());
            c.dueState("slot 0", () -> g.restoreSnapshot(0));
            c.dueState("slot 1", () -> g.restoreSnapshot(1));
            c.due("saving in slot 0", false, () -> g.saveSnapshot(0));
            c.due("saving in slot 1", false, () -> g.saveSnapshot(1));
        });
    }
}
