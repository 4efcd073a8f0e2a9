import java.nio.charset.StandardCharsets;

/** Puts texts into the input buffer. */
final class Texts {
    private Texts() {
    }

    /** Appends a text, filled up with zero bytes to a multiple of 20. */
    static void append(HeapGames games, String text) {
        byte[] bytes = text.getBytes(StandardCharsets.ISO_8859_1);
        for (int at = 0; at < bytes.length; at += 20) {
            games.append(fourAt(bytes, at), fourAt(bytes, at + 4), fourAt(bytes, at + 8),
                    fourAt(bytes, at + 12), fourAt(bytes, at + 16));
        }
    }

    static int fourAt(byte[] bytes, int at) {
        int four = 0;
        for (int i = at; i < at + 4; i++) {
            four = four << 8 | (i < bytes.length ? bytes[i] & 255 : 0);
        }
        return four;
    }

    static int parse(HeapGames games, String text) {
        append(games, text);
        return games.parse(text.length());
    }

    /** A new object that has read a text. */
    static HeapGames gameOf(String text) {
        HeapGames games = new HeapGames();
        int answer = parse(games, text);
        if (answer < 0) {
            throw new IllegalStateException("the text '" + text + "' was refused with " + answer);
        }
        return games;
    }

    /** What parse answers for an error. */
    static int error(int offset, int kind) {
        return -2 - (8 * offset + kind);
    }
}
