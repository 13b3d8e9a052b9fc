import java.nio.charset.StandardCharsets;

/** Brings texts to an object and back. */
final class Texts {
    private Texts() {
    }

    static void put(GasNominations x, String text) {
        byte[] bytes = text.getBytes(StandardCharsets.ISO_8859_1);
        int before = x.count(6);
        for (int i = 0; i < bytes.length; i += 20) {
            x.feed(word(bytes, i), word(bytes, i + 4), word(bytes, i + 8), word(bytes, i + 12), word(bytes, i + 16));
        }
        x.end(before + bytes.length);
    }

    static int tell(GasNominations x, String text) {
        put(x, text);
        return x.tell();
    }

    static GasNominations told(String text) {
        GasNominations x = new GasNominations();
        int answer = tell(x, text);
        if (answer < 0) {
            throw new IllegalArgumentException("the text has fault " + (-2 - answer) + ": " + text);
        }
        return x;
    }

    static String letter(GasNominations x) {
        StringBuilder text = new StringBuilder();
        int length = x.letter(GasNominations.NONE);
        for (int i = 0; i < length; i++) {
            text.append((char) x.letter(i));
        }
        return text.toString();
    }

    private static int word(byte[] bytes, int at) {
        int word = 0;
        for (int i = at; i < at + 4; i++) {
            word = word << 8 | (i < bytes.length ? bytes[i] & 255 : 0);
        }
        return word;
    }
}
