import java.util.function.Consumer;

/** Holds single sentences of the document against the class, each by a test of its own. */
final class Sentences {
    private int held = 0;
    private int broken = 0;

    /** One sentence: the heading under which it stands, its words, and the test that it has to pass. */
    void says(String heading, String words, Consumer<Check> test) {
        Check check = new Check();
        if (passes(test, check)) {
            held++;
        } else {
            broken++;
            System.out.println("BROKEN: " + heading + ": " + words);
        }
    }

    private static boolean passes(Consumer<Check> test, Check check) {
        try {
            test.accept(check);
        } catch (RuntimeException thrown) {
            System.out.println("the test itself ended with " + thrown);
            return false;
        }
        return check.isRight();
    }

    void end() {
        System.out.println(held + " sentences hold, " + broken + " are broken");
        if (broken != 0 || held == 0) {
            System.exit(1);
        }
    }

    /** All that tells one state of an object from another, but for the rules' values and the snapshots. */
    static String sight(HeapGames g) {
        StringBuilder text = new StringBuilder();
        for (int what = 0; what <= 9; what++) {
            text.append(g.size(what)).append(' ');
        }
        return text.append(heaps(g)).append(' ').append(g.checksum()).toString();
    }

    /** The rule and the counters of each heap. */
    static String heaps(HeapGames g) {
        StringBuilder text = new StringBuilder();
        for (int heap = 0; heap < g.size(1); heap++) {
            text.append(heap == 0 ? "" : " ").append(g.heap(heap, 0)).append(':').append(g.heap(heap, 1));
        }
        return text.toString();
    }

    /** The four numbers of each move of the record. */
    static String record(HeapGames g) {
        StringBuilder text = new StringBuilder();
        for (int index = 0; index < g.size(6); index++) {
            text.append(index == 0 ? "" : "; ");
            for (int what = 0; what <= 3; what++) {
                text.append(what == 0 ? "" : " ").append(g.played(index, what));
            }
        }
        return text.toString();
    }

    /** The four numbers of each move of the position. */
    static String moves(HeapGames g) {
        StringBuilder text = new StringBuilder();
        for (int index = 0; index < g.moves(); index++) {
            text.append(index == 0 ? "" : "; ");
            for (int what = 0; what <= 3; what++) {
                text.append(what == 0 ? "" : " ").append(g.move(index, what));
            }
        }
        return text.toString();
    }
}
