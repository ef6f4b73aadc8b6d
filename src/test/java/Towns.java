/** Objects for the tests: a text fed letter by letter. */
final class Towns {
    private Towns() {
    }

    static void feed(NoonCity x, String text) {
        for (int i = 0; i < text.length(); i++) {
            x.feed(text.charAt(i));
        }
    }

    static int tell(NoonCity x, String text) {
        feed(x, text);
        return x.text();
    }

    /** A new object of which a text tells all. */
    static NoonCity of(String text) {
        NoonCity x = new NoonCity();
        int lines = tell(x, text);
        if (lines < 0) {
            throw new IllegalArgumentException("fault " + x.fault() + " at " + (-10 - lines) + ": " + text);
        }
        return x;
    }
}
