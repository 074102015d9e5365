/** Short ways to make objects ready for a test. */
final class Yards {
    private Yards() {
    }

    static void feed(WhileSheLooks x, String text) {
        for (char sign : text.toCharArray()) {
            x.feed(sign);
        }
    }

    /** Reads a text as a YARD; what yard() answers. */
    static int read(WhileSheLooks x, String text) {
        feed(x, text);
        return x.yard();
    }

    /** An object with a YARD (none, if the text is empty) and children told as KIND, v, KIND, v .. */
    static WhileSheLooks with(String text, int... kindsAndNumbers) {
        WhileSheLooks x = new WhileSheLooks();
        for (int i = 0; i + 1 < kindsAndNumbers.length; i += 2) {
            x.child(kindsAndNumbers[i], kindsAndNumbers[i + 1]);
        }
        if (!text.isEmpty()) {
            read(x, text);
        }
        return x;
    }

    static void counts(WhileSheLooks x, int a, int b, int c, int d) {
        x.counts(0, a);
        x.counts(1, b);
        x.counts(2, c);
        x.counts(3, d);
    }
}
