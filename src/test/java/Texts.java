import java.nio.charset.StandardCharsets;

/** Brings texts and names into the form that the class takes. */
final class Texts {
    private Texts() {
    }

    /** Feeds a text, filled up with spaces, and loads just the text. */
    static int load(PatronageBooks x, String text) {
        feed(x, text);
        return x.load(text.length());
    }

    static void feed(PatronageBooks x, String text) {
        byte[] bytes = text.getBytes(StandardCharsets.ISO_8859_1);
        for (int i = 0; i < bytes.length; i += 20) {
            x.feed(four(bytes, i), four(bytes, i + 4), four(bytes, i + 8), four(bytes, i + 12), four(bytes, i + 16));
        }
    }

    static int four(byte[] bytes, int from) {
        int value = 0;
        for (int i = from; i < from + 4; i++) {
            value = value << 8 | (i < bytes.length ? bytes[i] & 255 : ' ');
        }
        return value;
    }

    /** A new object that has loaded a text, which must be good. */
    static PatronageBooks books(String text) {
        PatronageBooks x = new PatronageBooks();
        int answer = load(x, text);
        if (answer < 0) {
            throw new IllegalStateException("load answered " + answer + " at " + x.errorPosition() + ": " + text);
        }
        return x;
    }

    static int name(String letters) {
        int value = 0;
        for (int i = 0; i < 6; i++) {
            value = value * 32 + (i < letters.length() ? letters.charAt(i) - 96 : 0);
        }
        return value;
    }
}
