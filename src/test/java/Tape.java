import java.nio.charset.StandardCharsets;

/** Brings a text onto the tape of an object as its callers must: twenty bytes a call, then the end. */
final class Tape {
    private Tape() { }

    static int[] words(String text, int from) {
        byte[] bytes = text.getBytes(StandardCharsets.ISO_8859_1);
        int[] words = new int[5];
        for (int i = 0; i < 20; i++) {
            int sign = from + i < bytes.length ? bytes[from + i] & 255 : 0;
            words[i / 4] = words[i / 4] << 8 | sign;
        }
        return words;
    }

    static void lay(DownByAHair x, String text) {
        x.end(0);
        for (int from = 0; from < text.length(); from += 20) {
            int[] w = words(text, from);
            x.feed(w[0], w[1], w[2], w[3], w[4]);
        }
        x.end(text.length());
    }

    static int read(DownByAHair x, String text) {
        lay(x, text);
        return x.text();
    }
}
