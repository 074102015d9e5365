import java.util.LinkedHashMap;
import java.util.Map;

/**
 * How an object is, told in parts of which none depends on another: what AT, EARLY or her COUNTS are is put aside
 * ahead of asking for what hangs on them. It is for objects of ChangesTest, with four CHILDREN at most.
 */
final class Facets {
    static final int CHILDREN = 4;

    private final WhileSheLooks x;
    private final Map<String, String> all = new LinkedHashMap<>();

    private Facets(WhileSheLooks x) {
        this.x = x;
    }

    /** This takes some 300 calls, and the object is not to be used behind it. */
    static Map<String, String> of(WhileSheLooks x) {
        Facets facets = new Facets(x);
        facets.acts();
        facets.tapes();
        facets.put("YARDS", x.count(1));
        facets.put("bytes of THE TEXT", x.count(4));
        facets.now("");
        // If THE TEXT ends by "far 4", a YARD of 41 comes.
        x.feed('1');
        facets.put("THE TEXT", x.yard() < 0 ? -1 : x.told(1));
        facets.put("IMAGE", x.undo());
        facets.now("IMAGE: ");
        return facets.all;
    }

    private void put(String name, long... values) {
        StringBuilder text = new StringBuilder();
        for (long value : values) {
            text.append(' ').append(value);
        }
        all.put(name, text.toString());
    }

    private void acts() {
        put("bodies", x.count(5));
        for (int i = 0; i < 13; i++) {
            put("TRACE " + i, x.trace(i));
        }
    }

    private void tapes() {
        for (int tape = 0; tape < 6; tape++) {
            for (int i : new int[] {0, 1, 2, 3, 59}) {
                put("TAPE " + tape + " item " + i, x.read(tape, i));
            }
            // What is kept of this tells the sort.
            put("TAPE " + tape + " sort", x.item(tape, 0, 5000070003L), x.read(tape, 0));
        }
    }

    private void now(String when) {
        put(when + "HOW MANY", x.count(0));
        put(when + "TURN", x.told(0));
        for (int c = 0; c < CHILDREN; c++) {
            put(when + "KIND " + c, x.of(c, 0), x.of(c, 1));
            put(when + "AT " + c, x.of(c, 2));
            put(when + "EARLY " + c, x.of(c, 3));
            put(when + "SENT " + c, x.of(c, 4));
            put(when + "WALL " + c, x.of(c, 5));
            for (int part = 0; part < 4; part++) {
                int was = x.row(c, part, 0);
                put(when + "ROW " + c + " " + part, was);
            }
        }
        for (int k = 0; k < 4; k++) {
            put(when + "COUNT " + k, x.counts(k, 3));
        }
        yard(when);
        seen(when);
        book(when);
    }

    /** With COUNTS of 3, EARLY 1 and ROWS of 0: what the Es are, by WOBBLES. */
    private void yard(String when) {
        put(when + "YARD", x.told(1), x.told(2), x.told(3));
        for (int c = 0; c < CHILDREN; c++) {
            x.set(c, 1, 1);
            x.set(c, 0, 0);
            long near = x.of(c, 8);
            x.set(c, 0, 12);
            put(when + "YARD, E for " + c, near, x.of(c, 8));
        }
    }

    private void places(int... at) {
        for (int c = 0; c < at.length; c++) {
            x.set(c, 0, at[c]);
        }
    }

    /** While all stand, AT of them is that of the BOOK and of SEEN, or is not. */
    private void seen(String when) {
        for (int c = 0; c < CHILDREN; c++) {
            x.set(c, 1, 9);
        }
        put(when + "SEEN", x.count(2));
        places(7, 20);
        put(when + "SEEN, by 7 and 20", x.since());
        places(8, 20);
        put(when + "SEEN, by 8 and 20", x.since());
        places(7, 21);
        put(when + "SEEN, by 7 and 21", x.since());
    }

    private void book(String when) {
        put(when + "BOOK", x.count(3));
        places(7, 20, 30);
        put(when + "BOOK, by 7, 20, 30", x.looked());
        places(7, 21, 30);
        put(when + "BOOK, by 7, 21, 30", x.looked());
        places(7, 21, 31);
        put(when + "BOOK, by 7, 21, 31", x.looked());
    }
}
