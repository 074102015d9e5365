/** Promises 29 to 39: judging, the image, acts, tapes. What is due was worked out by hand. */
public final class RestTest {
    private static final long NO = WhileSheLooks.NO;
    private static final int MAX = Integer.MAX_VALUE, MIN = Integer.MIN_VALUE;
    private static final Due DUE = new Due("RestTest");

    public static void main(String[] args) {
        judge();
        judgeRefused();
        image();
        undoAll();
        undoRows();
        undoSent();
        undoWhatIsKept();
        undoYards();
        undoThenAnother();
        actsDownward();
        actsOfTold();
        actsWrap();
        actsRefused();
        taken();
        count();
        tape();
        items();
        read();
        shift();
        shiftRefused();
        DUE.end();
    }

    private static void due(String call, long got, long want) {
        DUE.is(call, got, want);
    }

    private static void judge() {
        WhileSheLooks x = Yards.with("", 0, 8, 0, 8, 0, 8);
        x.set(0, 0, 5);
        x.set(2, 0, 9);
        due("it holds nothing", x.judge(0, 0), 100);
        x.tape(0, 1, 5);
        x.item(0, 1, 5);
        x.item(0, 3, 9);
        due("as told", x.judge(0, 1), -5);
        due("the first is otherwise", x.judge(0, 0), 0);
        due("the second is otherwise", x.judge(0, 3), 0);
        x.item(0, 2, 1);
        due("the second is otherwise", x.judge(0, 1), 1);
        x.item(0, 2, 0);
        x.item(0, 3, 8);
        due("the third is otherwise", x.judge(0, 1), 2);
        x.item(0, 4, 5);
        due("it ends behind one", x.judge(0, 4), 101);
        x.item(0, 3, 5);
        x.item(0, 4, 0);
        due("it ends behind two", x.judge(0, 3), 102);
        x.item(0, 4, 7);
        due("otherwise ahead of its end", x.judge(0, 3), 1);
        due("from its end on", x.judge(0, 5), 100);
        due("judge(0, -1)", x.judge(0, -1), 100);
        due("judge(0, MAX)", x.judge(0, MAX), 100);
        due("judge(0, MIN)", x.judge(0, MIN), 100);
        x.tape(0, -1, 0);
        due("holds nothing again", x.judge(0, 0), 100);
    }

    private static void judgeRefused() {
        WhileSheLooks x = new WhileSheLooks();
        due("none to look at", x.judge(0, 0), -5);
        due("none to look at, wherever", x.judge(0, -1), -5);
        due("judge(-1, 0)", x.judge(-1, 0), -1);
        due("judge(6, 0)", x.judge(6, 0), -1);
        for (int sort = 0; sort <= 4; sort++) {
            x.tape(sort, sort, 3);
            due("nobody, a row of " + sort, x.judge(sort, 0), sort == 1 ? -5 : -12);
        }
        x.child(0, 0);
        due("a row of bytes", x.judge(0, -1), -12);
        due("a row of shorts", x.judge(1, 0), -5);
        due("a row of longs", x.judge(3, 0), -12);
    }

    private static void image() {
        WhileSheLooks x = new WhileSheLooks();
        due("undo() without one", x.undo(), -3);
        due("image() of nobody", x.image(), 0);
        x.child(0, 0);
        x.child(0, 0);
        due("undo() to nobody", x.undo(), 0);
        due("count(0)", x.count(0), 0);
        x.child(0, 0);
        x.child(0, 0);
        due("image() of two", x.image(), 2);
        x.child(0, 0);
        due("undo() to two", x.undo(), 2);
        x.child(0, 0);
        due("undo() again", x.undo(), 2);
    }

    private static void undoAll() {
        WhileSheLooks x = Yards.with("sharp 9", 6, 8, 4, 8, 0, 8);
        x.set(0, 0, 5);
        x.set(2, 0, 32);
        x.set(0, 1, 2);
        x.row(0, 2, 7);
        x.counts(2, 8);
        x.see(0, 1, 2);
        x.book(0, 7);
        x.turn();
        due("image()", x.image(), 3);
        x.set(0, 0, 1);
        x.set(1, 1, 4);
        x.set(2, 0, 0);
        x.row(0, 2, 3);
        x.row(0, 3, 3);
        x.counts(2, 1);
        x.counts(0, 1);
        x.see(1, 1, 1);
        x.book(-1, 0);
        x.turn();
        x.child(1, 1);
        due("undo()", x.undo(), 3);
        due("count(0)", x.count(0), 3);
        due("count(2)", x.count(2), 1);
        due("count(3)", x.count(3), 1);
        due("TURN", x.told(0), 1);
        due("COUNT 0", x.told(10), 3);
        due("COUNT 2", x.told(12), 8);
        due("at THE WALL", x.told(4), 4);
        int[][] due = {{6, 8, 8, 2, 0, 0}, {4, 8, 0, 1, 1, 0}, {0, 8, 40, 1, 0, 1}};
        for (int c = 0; c < 3; c++) {
            for (int what = 0; what < 6; what++) {
                due("of(" + c + ", " + what + ")", x.of(c, what), due[c][what]);
            }
        }
        due("its ROW", x.row(0, 2, 0), 7);
        due("its ROW", x.row(0, 3, 0), 0);
        due("the BOOK", x.looked(), 0);
        x.set(0, 0, 7);
        due("the BOOK", x.looked(), -5);
    }

    private static void undoRows() {
        // As many rows come anew, and others: undo brings the old ones back.
        WhileSheLooks x = Yards.with("", 0, 8, 0, 0);
        x.book(0, 8);
        x.book(1, 4);
        x.see(0, 1, 8);
        x.see(1, 2, 8);
        x.image();
        x.book(-1, 0);
        x.book(1, 0);
        x.book(0, 0);
        x.see(-1, 0, 0);
        x.see(1, 2, 9);
        x.see(0, 3, 1);
        due("by the new BOOK", x.looked(), -5);
        due("by what is new of SEEN", x.since(), 0);
        x.undo();
        due("by the old SEEN", x.since(), 15);
        due("by the old BOOK", x.looked(), 0);
        x.set(0, 0, 8);
        due("its first row is so", x.looked(), 1);
        x.set(1, 0, 4);
        due("both are", x.looked(), -5);
    }

    private static void undoSent() {
        WhileSheLooks x = Yards.with("", 4, 8);
        x.turn();
        x.image();
        x.turn();
        x.turn();
        due("SENT", x.of(0, 4), 3);
        x.undo();
        due("SENT then", x.of(0, 4), 1);
        due("EARLY then", x.of(0, 3), 1);
    }

    private static void undoWhatIsKept() {
        WhileSheLooks x = Yards.with("", 0, 8);
        x.image();
        Yards.feed(x, "far");
        x.tape(1, 1, 2);
        x.item(1, 0, 3);
        x.act(0, 1, 2);
        x.undo();
        due("THE TEXT stays", x.count(4), 3);
        due("TAPES stay", x.read(1, 0), 3);
        due("THE TRACE stays", x.trace(1), 10);
        due("bodies", x.count(5), 2);
        Yards.feed(x, " 12");
        due("THE TEXT goes on", x.yard(), 0);
        due("FAR", x.told(1), 12);
    }

    private static void undoYards() {
        WhileSheLooks x = Yards.with("", 0, 8);
        x.image();
        Yards.read(x, "far 11;wobble 3 c=0");
        due("FAR", x.told(1), 11);
        x.undo();
        due("none holds", x.told(1), 40);
        due("no SHAKE", x.of(0, 8), 2);
        due("YARDS stay", x.count(1), 1);
        due("the next number", Yards.read(x, "far 12;wobble 4 c=0"), 1);
        x.image();
        due("the next", Yards.read(x, "far 13"), 2);
        due("a FAULT between", Yards.read(x, "far 14;wobble 9 c=0;"), -30);
        x.undo();
        due("the one held then", x.told(1), 12);
        due("its CLAUSES", x.of(0, 8), 6);
    }

    private static void undoThenAnother() {
        WhileSheLooks x = new WhileSheLooks();
        x.image();
        x.child(6, 9);
        x.row(0, 0, 5);
        x.set(0, 0, 20);
        x.set(0, 1, 0);
        x.turn();
        x.see(0, 1, 1);
        x.book(0, 1);
        x.undo();
        due("nobody", x.of(0, 0), -1);
        due("nothing SEEN", x.since(), 15);
        due("no BOOK", x.looked(), -5);
        due("another one", x.child(6, 0), 0);
        int[] fresh = {6, 0, 0, 1, 0, 0, 1, 2, 0};
        for (int what = 0; what < fresh.length; what++) {
            due("of(0, " + what + ")", x.of(0, what), fresh[what]);
        }
        due("its ROW is 0", x.row(0, 0, 1), 0);
    }

    /** An object with one of each KIND, the numbers one more than their own. */
    private static WhileSheLooks all() {
        return Yards.with("", 0, 1, 1, 2, 2, 3, 3, 4, 4, 5, 5, 6, 6, 7);
    }

    private static void acts(WhileSheLooks x, int child, int act, int n, int answer, int... bodies) {
        String call = "act(" + child + ", " + act + ", " + n + ")";
        due(call, x.act(child, act, n), answer);
        due("bodies of " + call, x.count(5), bodies.length);
        for (int i = 0; i < bodies.length; i++) {
            due("trace(" + i + ") of " + call, x.trace(i), bodies[i]);
        }
        due("behind THE TRACE of " + call, x.trace(bodies.length), -1);
    }

    private static void actsDownward() {
        WhileSheLooks x = all();
        acts(x, 0, 0, 5, 5, 10);
        acts(x, 0, 1, 5, 4, 11, 10);
        acts(x, 0, 2, 5, 8, 12, 11, 10);
        acts(x, 1, 0, 5, 6, 10);
        acts(x, 1, 1, 5, 2, 20, 11, 10);
        acts(x, 1, 2, 5, 4, 12, 20, 11, 10);
        acts(x, 2, 0, 5, 17, 30, 10);
        acts(x, 2, 1, 5, 14, 11, 30, 10);
        acts(x, 2, 2, 5, 28, 12, 11, 30, 10);
        acts(x, 3, 0, 5, 8, 10);
        acts(x, 3, 1, 5, 4, 11, 10);
        acts(x, 3, 2, 7, 12, 40, 12, 11, 10, 11, 10);
        acts(x, 4, 0, 5, -9, 50, 10);
        acts(x, 4, 1, 5, -9, 51, 20, 11, 50, 10);
        acts(x, 4, 2, 5, -18, 12, 51, 20, 11, 50, 10);
        acts(x, 5, 0, 5, 20, 30, 10);
        acts(x, 5, 1, 5, 14, 11, 30, 10);
        acts(x, 5, 2, 5, -2, 60, 12, 11, 30, 10);
    }

    private static void actsOfTold() {
        WhileSheLooks x = all();
        acts(x, 6, 0, 5, 12, 71, 10);
        acts(x, 6, 1, 5, 13, 70, 11, 71, 10, 10);
        acts(x, 6, 2, 5, 27, 40, 12, 70, 11, 71, 10, 10, 70, 11, 71, 10, 10);
        due("trace(-1)", x.trace(-1), -1);
        due("trace(20)", x.trace(20), -1);
        due("trace(MAX)", x.trace(MAX), -1);
        due("trace(MIN)", x.trace(MIN), -1);
    }

    private static void actsWrap() {
        WhileSheLooks x = all();
        acts(x, 1, 0, MAX, MIN, 10);
        acts(x, 0, 1, MIN, MAX, 11, 10);
        acts(x, 0, 2, 0x40000001, MIN, 12, 11, 10);
        acts(x, 2, 0, 0x60000000, 0x20000002, 30, 10);
        acts(x, 4, 0, MIN + 4, MAX - 7, 50, 10);
        acts(x, 4, 0, MIN - 4, MIN, 50, 10);
    }

    private static void actsRefused() {
        WhileSheLooks x = all();
        int[][] calls = {{7, 0}, {-1, 0}, {0, 3}, {0, -1}, {9, 9}, {MIN, MAX}};
        for (int[] call : calls) {
            x.act(0, 2, 5);
            due("refused", x.act(call[0], call[1], 5), 0);
            due("no body", x.count(5), 0);
            due("no TRACE", x.trace(0), -1);
        }
    }

    private static void taken() {
        WhileSheLooks x = all();
        int[] under = {127, 1 << 1 | 1 << 4, 1 << 2 | 1 << 5, 1 << 3 | 1 << 6, 1 << 4, 1 << 5, 1 << 6};
        for (int c = 0; c < 7; c++) {
            for (int k = 0; k < 7; k++) {
                boolean is = (under[k] >> c & 1) != 0;
                due("taken(" + c + ", " + k + ")", x.taken(c, k), is ? c : -12);
            }
        }
        due("taken(0, -1)", x.taken(0, -1), -2);
        due("taken(0, 7)", x.taken(0, 7), -2);
        due("taken(7, 7): BAD first", x.taken(7, 7), -2);
        due("taken(7, 0)", x.taken(7, 0), -11);
        due("taken(-1, 0)", x.taken(-1, 0), -11);
    }

    private static void count() {
        WhileSheLooks x = all();
        Yards.read(x, "far 9");
        Yards.read(x, "far 8");
        Yards.feed(x, "see");
        x.see(0, 0, 0);
        for (int i = 0; i < 5; i++) {
            x.book(0, 0);
        }
        x.act(6, 2, 1);
        int[] due = {7, 2, 1, 5, 3, 12};
        for (int what = 0; what < due.length; what++) {
            due("count(" + what + ")", x.count(what), due[what]);
        }
        due("count(-1)", x.count(-1), -2);
        due("count(6)", x.count(6), -2);
    }

    private static void tape() {
        WhileSheLooks x = new WhileSheLooks();
        due("tape(-1, 0, 0)", x.tape(-1, 0, 0), -1);
        due("tape(6, 9, 99): NONE first", x.tape(6, 9, 99), -1);
        due("tape(0, -2, 0)", x.tape(0, -2, 0), -2);
        due("tape(0, 5, -1): BAD first", x.tape(0, 5, -1), -2);
        due("tape(0, 0, 61)", x.tape(0, 0, 61), -2);
        due("tape(0, 0, MAX)", x.tape(0, 0, MAX), -2);
        due("tape(0, 0, -1)", x.tape(0, 0, -1), -14);
        due("tape(0, 0, MIN)", x.tape(0, 0, MIN), -14);
        due("nothing yet", x.item(0, 0, 0), -11);
        due("tape(0, 0, 60)", x.tape(0, 0, 60), 1);
        due("item(0, 0, 1)", x.item(0, 0, 1), 1);
        due("item(0, 59, 1)", x.item(0, 59, 1), 1);
        due("refused", x.tape(0, 0, 61), -2);
        due("it stays", x.read(0, 59), 1);
        due("anew", x.tape(0, 0, 60), 1);
        due("all 0 at its begin", x.read(0, 0), 0);
        due("all 0 at its end", x.read(0, 59), 0);
        due("shorter", x.tape(0, 2, 2), 1);
        due("no such place", x.read(0, 2), NO);
        due("empty", x.tape(0, 3, 0), 1);
        due("no place", x.item(0, 0, 1), -13);
        due("nothing, n does not matter", x.tape(0, -1, MIN), 1);
        due("nothing, n does not matter", x.tape(0, -1, MAX), 1);
        due("nothing", x.item(0, 0, 1), -11);
    }

    private static void items() {
        WhileSheLooks x = new WhileSheLooks();
        long[] values = {0, 1, -1, 127, 128, 32768, 0x80000000L, 0x123456789ABCDEF0L, Long.MIN_VALUE};
        for (int sort = 0; sort <= 4; sort++) {
            x.tape(sort, sort, 3);
            for (long v : values) {
                due("item", x.item(sort, 1, v), 1);
                long kept = sort == 0 ? (byte) v : sort == 1 ? (short) v : sort == 2 ? (int) v
                    : sort == 3 ? v : v == 0 ? 0 : 1;
                due("item of sort " + sort + " of " + v, x.read(sort, 1), kept);
            }
            due("the one ahead", x.read(sort, 0), 0);
            due("the one behind", x.read(sort, 2), 0);
            due("item(" + sort + ", 3, 0)", x.item(sort, 3, 0), -13);
            due("item(" + sort + ", -1, 0)", x.item(sort, -1, 0), -13);
        }
        due("item(-1, 0, 0)", x.item(-1, 0, 0), -1);
        due("item(6, 0, 0)", x.item(6, 0, 0), -1);
        due("item(5, -1, 0): NOTHING first", x.item(5, -1, 0), -11);
    }

    private static void read() {
        WhileSheLooks x = new WhileSheLooks();
        x.tape(2, 3, 2);
        x.item(2, 1, 77);
        due("read(2, 1)", x.read(2, 1), 77);
        due("read(2, 0)", x.read(2, 0), 0);
        due("read(2, 2)", x.read(2, 2), NO);
        due("read(2, -1)", x.read(2, -1), NO);
        due("read(1, 0)", x.read(1, 0), NO);
        due("read(-1, 0)", x.read(-1, 0), NO);
        due("read(6, 0)", x.read(6, 0), NO);
        due("read(MIN, MIN)", x.read(MIN, MIN), NO);
    }

    private static void holds(WhileSheLooks x, int tape, int... items) {
        for (int i = 0; i < items.length; i++) {
            due("read(" + tape + ", " + i + ")", x.read(tape, i), items[i]);
        }
    }

    private static void shift() {
        WhileSheLooks x = new WhileSheLooks();
        x.tape(0, 2, 6);
        x.tape(1, 2, 4);
        for (int i = 0; i < 6; i++) {
            x.item(0, i, i + 1);
        }
        due("backward in itself", x.shift(0, 0, 0, 2, 4), 4);
        holds(x, 0, 1, 2, 1, 2, 3, 4);
        due("forward in itself", x.shift(0, 2, 0, 1, 4), 4);
        holds(x, 0, 1, 1, 2, 3, 4, 4);
        due("to another", x.shift(0, 2, 1, 1, 3), 3);
        holds(x, 1, 0, 2, 3, 4);
        holds(x, 0, 1, 1, 2, 3, 4, 4);
        due("none, at the ends", x.shift(0, 6, 1, 4, 0), 0);
        due("all", x.shift(1, 0, 0, 0, 4), 4);
        holds(x, 0, 0, 2, 3, 4, 4, 4);
    }

    private static void shiftRefused() {
        WhileSheLooks x = new WhileSheLooks();
        x.tape(0, 2, 6);
        x.tape(1, 2, 4);
        x.tape(2, 1, 4);
        due("shift(-1, 0, 0, 0, 1)", x.shift(-1, 0, 0, 0, 1), -1);
        due("shift(0, 0, 6, 0, 1)", x.shift(0, 0, 6, 0, 1), -1);
        due("shift(3, 0, 6, 0, 1): NONE first", x.shift(3, 0, 6, 0, 1), -1);
        due("shift(3, 0, 0, 0, 1)", x.shift(3, 0, 0, 0, 1), -11);
        due("shift(0, 0, 3, 0, -1): NOTHING first", x.shift(0, 0, 3, 0, -1), -11);
        due("shift(0, 0, 2, 0, -1): CAST first", x.shift(0, 0, 2, 0, -1), -12);
        int[][] places = {{-1, 0, 1}, {0, -1, 1}, {0, 0, -1}, {0, 0, 5}, {2, 0, 5}, {6, 0, 1}, {7, 0, 0},
            {0, 5, 0}, {0, 2, 3}, {MAX, 0, MAX}, {0, MAX, MAX}, {1, 0, MAX}, {0, 1, MAX}, {MIN, 0, 0}};
        for (int[] p : places) {
            due("shift(0, " + p[0] + ", 1, " + p[1] + ", " + p[2] + ")",
                x.shift(0, p[0], 1, p[1], p[2]), -13);
        }
    }
}
