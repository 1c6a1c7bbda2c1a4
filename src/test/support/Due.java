/** What is asked of a house and what is due; prints each answer that is not as due, with the words that it breaks. */
final class Due {
    private static String words = "";
    private static int tests = 0;
    private static int asked = 0;
    private static int wrong = 0;

    private Due() {
    }

    /** A test of its own for one sentence of the document; it begins with a new house. */
    static FilmLooksBack test(int promise, String sentence) {
        words = "promise " + promise + ": " + sentence;
        tests++;
        return new FilmLooksBack();
    }

    /** What is asked from here on is asked of this promise. */
    static void of(int promise) {
        words = "promise " + promise;
    }

    static void is(String call, long got, long due) {
        asked++;
        if (got != due) {
            wrong++;
            System.out.println(words + ": " + call + " answered " + got + ", due is " + due);
        }
    }

    static void is(String call, boolean got, boolean due) {
        is(call, got ? 1 : 0, due ? 1 : 0);
    }

    static void end() {
        String sentences = tests == 0 ? "" : tests + " sentences, ";
        System.out.println(sentences + asked + " answers, " + wrong + " wrong");
        if (wrong != 0) {
            System.exit(1);
        }
    }
}
