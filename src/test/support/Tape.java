/** Puts texts onto the tape of a house. */
final class Tape {
    private static final int FED = 20;
    private static final int LONGEST = 300;

    private Tape() {
    }

    /** The tape has just these bytes then. */
    static void put(FilmLooksBack x, String text) {
        if (text.length() > LONGEST) {
            throw new IllegalArgumentException("longer than the tape: " + text);
        }
        x.end(0);
        int[] w = new int[5];
        for (int at = 0; at < text.length(); at += FED) {
            for (int i = 0; i < FED; i++) {
                int b = at + i < text.length() ? text.charAt(at + i) & 255 : 0;
                w[i / 4] = w[i / 4] << 8 | b;
            }
            x.feed(w[0], w[1], w[2], w[3], w[4]);
        }
        x.end(text.length());
    }

    static int read(FilmLooksBack x, String text) {
        put(x, text);
        return x.text();
    }

    /** It is read, and rules. */
    static void rule(FilmLooksBack x, String text) {
        x.by(read(x, text));
    }
}
