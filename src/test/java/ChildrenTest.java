/** Promises 1 to 9: children, yards, counts. What is due was worked out by hand from the document. */
public final class ChildrenTest {
    private static final int MAX = Integer.MAX_VALUE, MIN = Integer.MIN_VALUE;
    private static final Due DUE = new Due("ChildrenTest");

    public static void main(String[] args) {
        aNewObject();
        child();
        ofPlain();
        ofPaces();
        ofWobbles();
        ofInItself();
        set();
        setAtTheWall();
        row();
        counts();
        feed();
        yardNumbers();
        yardFaults();
        yardDepths();
        yardClauses();
        yardFails();
        yardAndTheWall();
        tests();
        joints();
        told();
        DUE.end();
    }

    private static void due(String call, long got, long want) {
        DUE.is(call, got, want);
    }

    private static void aNewObject() {
        WhileSheLooks x = new WhileSheLooks();
        for (int what = 0; what <= 5; what++) {
            due("new: count(" + what + ")", x.count(what), 0);
        }
        for (int k = 0; k < 4; k++) {
            due("new: told(1" + k + ")", x.told(10 + k), 3);
        }
        due("new: told(0)", x.told(0), 0);
        due("new: told(1)", x.told(1), 40);
        due("new: told(2)", x.told(2), 3);
        due("new: told(3)", x.told(3), 9);
        due("new: told(4)", x.told(4), 0);
        for (int t = 0; t < 6; t++) {
            due("new: read", x.read(t, 0), WhileSheLooks.NO);
            due("new: item", x.item(t, 0, 1), -11);
        }
        due("new: undo()", x.undo(), -3);
        due("new: trace(0)", x.trace(0), -1);
        due("two objects apart", new WhileSheLooks().child(0, 0) + x.count(0), 0);
    }

    private static void child() {
        WhileSheLooks x = new WhileSheLooks();
        due("child(-1, 0)", x.child(-1, 0), -1);
        due("child(7, 0)", x.child(7, 0), -1);
        due("child(7, 10): NONE first", x.child(7, 10), -1);
        due("child(0, -1)", x.child(0, -1), -2);
        due("child(0, 10)", x.child(0, 10), -2);
        due("child(MIN, MIN)", x.child(MIN, MIN), -1);
        for (int c = 0; c < 7; c++) {
            due("child(" + c + ", " + (c + 3) + ")", x.child(c, c + 3), c);
        }
        due("the eighth", x.child(0, 0), -4);
        due("the eighth of no kind", x.child(9, 0), -1);
        due("the eighth with no number", x.child(0, 11), -2);
        due("count(0)", x.count(0), 7);
    }

    private static void ofPlain() {
        WhileSheLooks x = Yards.with("", 4, 8, 0, 7);
        int[] reckless = {4, 8, 0, 1, 0, 0, 12, 24, 11};
        for (int what = 0; what < reckless.length; what++) {
            due("of(0, " + what + ")", x.of(0, what), reckless[what]);
        }
        x.turn();
        due("AT when sent back", x.of(0, 2), 0);
        due("SENT", x.of(0, 4), 1);
        due("AT of the other", x.of(1, 2), 8);
        due("SENT of the other", x.of(1, 4), 0);
        x.set(1, 0, 39);
        x.turn();
        due("at THE WALL", x.of(1, 5), 1);
        due("AT FAR there", x.of(1, 2), 40);
        due("PACE there too", x.of(1, 6), 4);
        due("GOES there too", x.of(1, 7), 8);
        due("WOBBLES there too", x.of(1, 8), 2);
        due("of(-1, 0)", x.of(-1, 0), -1);
        due("of(2, 0)", x.of(2, 0), -1);
        due("of(0, -1)", x.of(0, -1), -1);
        due("of(0, 9)", x.of(0, 9), -1);
        due("of(MIN, 0)", x.of(MIN, 0), -1);
        due("of(0, MAX)", x.of(0, MAX), -1);
    }

    private static void ofPaces() {
        int[][] paces = {
            {2, 2, 2, 3, 3, 3, 4, 4, 4, 5}, {4, 4, 4, 5, 5, 5, 6, 6, 6, 7}, {2, 2, 2, 3, 3, 3, 4, 4, 4, 5},
            {1, 1, 1, 1, 2, 2, 2, 2, 3, 3}, {8, 8, 8, 10, 10, 10, 12, 12, 12, 14},
            {1, 1, 1, 2, 2, 2, 3, 3, 3, 4}, {1, 1, 1, 1, 2, 2, 2, 2, 3, 3}};
        for (int kind = 0; kind < 7; kind++) {
            for (int v = 0; v < 10; v++) {
                WhileSheLooks x = Yards.with("", kind, v);
                int pace = paces[kind][v];
                due("PACE of KIND " + kind + " with " + v, x.of(0, 6), pace);
                due("GOES by 3, 1", x.of(0, 7), 2 * pace);
                x.set(0, 1, 3);
                due("GOES by 3, 3", x.of(0, 7), 0);
                x.set(0, 1, 9);
                due("GOES by 3, 9", x.of(0, 7), 0);
                x.counts(0, 9);
                x.set(0, 1, 0);
                due("GOES by 9, 0", x.of(0, 7), 9 * pace);
            }
        }
    }

    private static void ofWobbles() {
        // SHAKE is 5, EARLY 1: CHILD PACE + 3.
        WhileSheLooks x = Yards.with("wobble 5 c<9", 0, 1, 1, 1, 2, 1, 3, 1, 4, 1, 5, 1, 6, 1);
        int[] byOne = {5, 7, 4, 3, 12, 3, 3};
        int[] byTwo = {3, 5, 2, 2, 10, 0, 2};
        int[] standing = {0, 0, 0, 0, 1, 0, 0};
        for (int c = 0; c < 7; c++) {
            due("WOBBLES of " + c + ", EARLY 1", x.of(c, 8), byOne[c]);
            x.set(c, 1, 2);
            due("WOBBLES of " + c + ", EARLY 2", x.of(c, 8), byTwo[c]);
            x.set(c, 1, 3);
            due("WOBBLES of " + c + " who GOES 0", x.of(c, 8), standing[c]);
            x.set(c, 1, 1);
        }
        x.row(6, 0, 9);
        due("PACE of a TOLD one", x.of(6, 6), 10);
        due("WOBBLES of a TOLD one", x.of(6, 8), 3);
    }

    private static void ofInItself() {
        // SHAKE is far below 0: what CHILD WOBBLES is 0 in itself, and RECKLESS adds 1 to that.
        WhileSheLooks x = Yards.with("still 99 c<9", 0, 9, 1, 9, 2, 9, 3, 9, 4, 9, 5, 9, 6, 9);
        for (int c = 0; c < 7; c++) {
            due("WOBBLES of " + c + " in itself", x.of(c, 8), c == 4 ? 1 : 0);
        }
    }

    private static void set() {
        WhileSheLooks x = Yards.with("far 30", 0, 8);
        due("set(0, 0, 29)", x.set(0, 0, 29), 0);
        due("set(0, 0, 30)", x.set(0, 0, 30), -2);
        due("set(0, 0, -1)", x.set(0, 0, -1), -2);
        due("AT stays", x.of(0, 2), 29);
        due("set(0, 0, 0)", x.set(0, 0, 0), 29);
        due("set(0, 1, 9)", x.set(0, 1, 9), 1);
        due("set(0, 1, 10)", x.set(0, 1, 10), -2);
        due("set(0, 1, -1)", x.set(0, 1, -1), -2);
        due("set(0, 1, 0)", x.set(0, 1, 0), 9);
        due("set(1, 0, 0)", x.set(1, 0, 0), -1);
        due("set(-1, 1, 99)", x.set(-1, 1, 99), -1);
        due("set(0, 2, 99)", x.set(0, 2, 99), -1);
        due("set(0, -1, 0)", x.set(0, -1, 0), -1);
        due("EARLY stays", x.of(0, 3), 0);
    }

    private static void setAtTheWall() {
        WhileSheLooks x = Yards.with("", 0, 8);
        x.set(0, 0, 35);
        x.turn();
        due("there", x.told(4), 1);
        due("a refused AT leaves it there", x.set(0, 0, 40), -2);
        due("still there", x.told(4), 1);
        due("EARLY leaves it there", x.set(0, 1, 2), 1);
        due("still there", x.of(0, 5), 1);
        due("set(0, 0, 7) from THE WALL", x.set(0, 0, 7), 40);
        due("no longer there", x.told(4), 0);
        due("AT", x.of(0, 2), 7);
    }

    private static void row() {
        WhileSheLooks x = Yards.with("", 6, 4, 3, 4);
        due("row(0, 0, 5)", x.row(0, 0, 5), 0);
        due("row(0, 0, 9)", x.row(0, 0, 9), 5);
        due("row(0, 3, 1)", x.row(0, 3, 1), 0);
        due("row(0, 4, 1)", x.row(0, 4, 1), -1);
        due("row(0, -1, 1)", x.row(0, -1, 1), -1);
        due("row(2, 0, 1)", x.row(2, 0, 1), -1);
        due("row(0, 0, 10)", x.row(0, 0, 10), -2);
        due("row(0, 0, -1)", x.row(0, 0, -1), -2);
        due("row(1, 0, 10): BAD first", x.row(1, 0, 10), -2);
        due("row(1, 4, 1): NONE first", x.row(1, 4, 1), -1);
        due("row(1, 0, 1)", x.row(1, 0, 1), -3);
        int[] paces = {11, 2, 2, 3, 11};
        for (int turn = 0; turn < paces.length; turn++) {
            due("PACE by its ROW in TURN " + turn, x.of(0, 6), paces[turn]);
            due("PACE without one", x.of(1, 6), 2);
            x.turn();
        }
    }

    private static void counts() {
        WhileSheLooks x = Yards.with("", 0, 0);
        due("counts(-1, 1)", x.counts(-1, 1), -1);
        due("counts(4, 0)", x.counts(4, 0), -1);
        due("counts(0, 0)", x.counts(0, 0), -2);
        due("counts(3, 10)", x.counts(3, 10), -2);
        due("counts(0, 1)", x.counts(0, 1), 3);
        due("counts(0, 9)", x.counts(0, 9), 1);
        due("counts(3, 5)", x.counts(3, 5), 3);
        int[] goes = {16, 4, 4, 8, 16};
        for (int turn = 0; turn < goes.length; turn++) {
            due("GOES by COUNTS in TURN " + turn, x.of(0, 7), goes[turn]);
            x.turn();
        }
    }

    private static void feed() {
        WhileSheLooks x = new WhileSheLooks();
        due("feed(-1)", x.feed(-1), -2);
        due("feed(128)", x.feed(128), -2);
        due("feed(MIN)", x.feed(MIN), -2);
        for (int i = 1; i <= 100; i++) {
            due("feed", x.feed(i == 1 ? 0 : 127), i);
        }
        due("the 101st", x.feed(32), -4);
        due("BAD first", x.feed(128), -2);
        due("count(4)", x.count(4), 100);
        due("yard()", x.yard(), -10);
        due("empty then", x.count(4), 0);
        due("feed(0)", x.feed(0), 1);
    }

    private static void yardNumbers() {
        WhileSheLooks x = new WhileSheLooks();
        for (int i = 0; i < 6; i++) {
            due("yard " + i, Yards.read(x, "far " + (10 + i)), i);
            due("the newest holds", x.told(1), 10 + i);
            due("count(1)", x.count(1), i + 1);
            due("THE TEXT is empty", x.count(4), 0);
        }
        due("a seventh", Yards.read(x, "far 99"), -4);
        due("THE TEXT stays", x.count(4), 6);
        due("the one that held holds", x.told(1), 15);
        due("FULL ahead of the FAULT", Yards.read(x, "!!"), -4);
        due("count(1)", x.count(1), 6);
    }

    private static void fault(String text, int place) {
        WhileSheLooks x = new WhileSheLooks();
        due("yard() of " + text, Yards.read(x, text), place < 0 ? 0 : -10 - place);
        due("count(1) then", x.count(1), place < 0 ? 1 : 0);
        due("count(4) then", x.count(4), 0);
    }

    private static void yardFaults() {
        fault("", 0);
        fault("x", 0);
        fault(" far 1", 0);
        fault("s", 1);
        fault("st", 2);
        fault("sta", 2);
        fault("si", 1);
        fault("shore", 2);
        fault("seek", 3);
        fault("sees", 4);
        fault("sees ", 5);
        fault("sees 5", -1);
        fault("sees 05", -1);
        fault("sees 055", 7);
        fault("sees  5", 5);
        fault("sees 5 ", 6);
        fault("sees 5;", 7);
        fault("sees 5; far 1", 7);
        fault("far 1 c=1", 5);
        fault("Far 1", 0);
        fault("wobble 3", 8);
        fault("wobble 3;", 8);
        fault("wobble 3 ", 9);
        fault("wobble 3 c", 10);
        fault("wobble 3 c=", 11);
        fault("wobble 3 c=1", -1);
        fault("wobble 3 c=12", -1);
        fault("wobble 3 c=123", 13);
        fault("wobble 3 c==1", 11);
        fault("wobble 3 x=1", 9);
        fault("wobble 3 c=1|", 13);
        fault("wobble 3 c=1||", 13);
        fault("wobble 3 c=1&", 13);
        fault("wobble 3 c=1|&", 13);
        fault("wobble 3 c=1)", 12);
        fault("wobble 3 c=1 ", 12);
        fault("wobble 3 c=1!", 12);
        fault("wobble 3 (c=1", 13);
        fault("wobble 3 (c=1;", 13);
        fault("wobble 3 (c=1)", -1);
        fault("wobble 3 ()", 10);
        fault("wobble 3 !", 10);
        fault("wobble 3 !|", 10);
        fault("still 3 c=1;wobble 3 k<2&(e>1|b=3)&!a<5;far 9;sharp 1;sees 2", -1);
    }

    private static void yardDepths() {
        fault("still 1 ((((c=1))))", -1);
        fault("still 1 (((((c=1)))))", 12);
        fault("still 1 !!!!c=1", -1);
        fault("still 1 !!!!!c=1", 12);
        fault("still 1 !(!(c=1))", -1);
        fault("still 1 !(!((c=1)))", 12);
        fault("still 1 !(!(!c=1))", 12);
        fault("still 1 !!!!c=1&!!!!c=1|!!!!c=1", -1);
        fault("still 1 !!!!(c=1)", 12);
        fault("still 1 (!c=1&(!c=1|!!!c=1))", 22);
        fault("still 1 (!c=1&(!c=1|!!c=1))", -1);
        fault("still 1 ((((c=1))))|((((c=1)", 28);
    }

    private static void yardClauses() {
        StringBuilder ten = new StringBuilder("far 1");
        for (int i = 0; i < 9; i++) {
            ten.append(";far 1");
        }
        fault(ten.toString(), -1);
        fault(ten + ";", 59);
        fault(ten + ";far 1", 59);
        fault(ten + "x", 59);
        fault(ten.substring(0, 58), 58);
        String full = "wobble 1 c=1";
        while (full.length() < 97) {
            full += "|c=1";
        }
        fault(full.substring(0, 96), -1);
        fault(full.substring(0, 96) + "|c=1", -1);
        fault(full.substring(0, 96) + "|c=", 99);
        fault(full.substring(0, 96) + "&c=1", -1);
    }

    private static void yardFails() {
        WhileSheLooks x = Yards.with("far 20;sharp 5;sees 2;wobble 3 c=0", 0, 8);
        due("what it tells", x.of(0, 8), 5);
        due("a FAULT", Yards.read(x, "far 30;sharp 1;sees 1;wobble 9 c=0;fur"), -10 - 36);
        due("FAR as it was", x.told(1), 20);
        due("SHARP as it was", x.told(2), 5);
        due("SEES as it was", x.told(3), 2);
        due("SHAKE as it was", x.of(0, 8), 5);
        due("the next number", Yards.read(x, "wobble 1 c=0"), 1);
        due("FAR without one", x.told(1), 40);
        due("SHARP without one", x.told(2), 3);
        due("SEES without one", x.told(3), 9);
        due("SHAKE by the new one alone", x.of(0, 8), 3);
        for (int i = 0; i < 4; i++) {
            due("many TESTs and a FAULT",
                Yards.read(x, "wobble 1 c=0&c=0&c=0&c=0&c=0&c=0&c=0&c=0&c=0&c=0&c=0&c=0&c=0&"), -71);
        }
        due("the next number", Yards.read(x, "wobble 5 c=1|c=0&!k=1"), 2);
        due("SHAKE by this one alone", x.of(0, 8), 7);
    }

    private static void yardAndTheWall() {
        WhileSheLooks x = Yards.with("", 0, 8, 0, 8);
        x.set(0, 0, 39);
        x.set(1, 0, 20);
        x.turn();
        due("at THE WALL", x.told(4), 1);
        Yards.read(x, "far 50");
        due("stays there", x.told(4), 1);
        due("AT as it was", x.of(0, 2), 40);
        x.turn();
        due("goes no more", x.of(0, 2), 40);
        Yards.read(x, "far 10");
        due("who is beyond FAR touches in a TURN", x.told(4), 1);
        due("AT till then", x.of(1, 2), 36);
        x.set(1, 1, 9);
        x.turn();
        due("then", x.told(4), 3);
        due("AT FAR then", x.of(1, 2), 10);
        due("the one there before stays as it was", x.of(0, 2), 40);
    }

    /** WOBBLES is PACE 4, less 2, and 7 if it holds. */
    private static void holds(String e, int kind, int at, int early, int turns, boolean holds) {
        WhileSheLooks x = Yards.with("sharp 99;wobble 20 " + e, 0, 0, kind, 9);
        x.counts(1, 9);
        for (int i = 0; i < turns; i++) {
            x.turn();
        }
        x.set(1, 0, at);
        x.set(1, 1, early);
        due(e + " holds", x.of(1, 8) >= 15 ? 1 : 0, holds ? 1 : 0);
    }

    private static void tests() {
        holds("c=1", 0, 0, 1, 0, true);
        holds("c=0", 0, 0, 1, 0, false);
        holds("c<1", 0, 0, 1, 0, false);
        holds("c<2", 0, 0, 1, 0, true);
        holds("c>0", 0, 0, 1, 0, true);
        holds("c>1", 0, 0, 1, 0, false);
        holds("k=1", 1, 0, 1, 0, true);
        holds("k=4", 4, 0, 1, 0, true);
        holds("k=1", 4, 0, 1, 0, false);
        holds("e=2", 0, 0, 2, 0, true);
        holds("e=2", 0, 0, 1, 0, false);
        holds("b=3", 0, 0, 1, 0, true);
        holds("b=9", 0, 0, 1, 1, true);
        holds("b=3", 0, 0, 1, 1, false);
        holds("a=0", 0, 4, 1, 0, true);
        holds("a=1", 0, 5, 1, 0, true);
        holds("a=1", 0, 9, 1, 0, true);
        holds("a=7", 0, 39, 1, 0, true);
        holds("t=0", 0, 0, 1, 0, true);
        holds("t=9", 0, 0, 1, 9, true);
        holds("t=0", 0, 0, 1, 10, true);
        holds("t=1", 0, 0, 1, 11, true);
        holds("t>9", 0, 0, 1, 11, false);
        for (char letter : "ckebat".toCharArray()) {
            holds(letter + "<99", 0, 0, 1, 0, true);
            holds(letter + "=99", 0, 0, 1, 0, false);
            holds(letter + ">99", 0, 0, 1, 0, false);
            holds(letter + "<0", 0, 0, 1, 0, false);
            holds(letter + "<00", 0, 0, 1, 0, false);
        }
        holds("c=01", 0, 0, 1, 0, true);
        holds("c<10", 0, 0, 1, 0, true);
    }

    private static void joints() {
        holds("c=1|c=0&c=0", 0, 0, 1, 0, true);
        holds("c=0&c=0|c=1", 0, 0, 1, 0, true);
        holds("(c=1|c=0)&c=0", 0, 0, 1, 0, false);
        holds("c=0|c=1|c=2", 0, 0, 1, 0, true);
        holds("c=1&k=0&e=1", 0, 0, 1, 0, true);
        holds("c=1&k=0&e=2", 0, 0, 1, 0, false);
        holds("!c=1", 0, 0, 1, 0, false);
        holds("!c=1|c=1", 0, 0, 1, 0, true);
        holds("!(c=1|c=0)", 0, 0, 1, 0, false);
        holds("!c=0&c=1", 0, 0, 1, 0, true);
        holds("!!c=1", 0, 0, 1, 0, true);
        holds("!(!c=1&!c=0)", 0, 0, 1, 0, true);
        WhileSheLooks x = Yards.with("wobble 9 c=0;still 4 k=0;wobble 2 e=1;still 1 c=5", 0, 8);
        due("all wobble less all still", x.of(0, 8), 9);
    }

    private static void told() {
        WhileSheLooks x = Yards.with("sees 4;far 9;sharp 2;far 0;sees 0;sharp 11", 0, 8, 0, 8);
        Yards.counts(x, 1, 2, 3, 4);
        due("FAR is 1 at least", x.told(1), 1);
        due("the last SHARP", x.told(2), 11);
        due("the last SEES", x.told(3), 0);
        due("told(5)", x.told(5), -1);
        due("told(9)", x.told(9), -1);
        due("told(14)", x.told(14), -1);
        due("told(-1)", x.told(-1), -1);
        due("told(MIN)", x.told(MIN), -1);
        for (int k = 0; k < 4; k++) {
            due("told(10 + " + k + ")", x.told(10 + k), k + 1);
        }
        x.turn();
        due("TURN", x.told(0), 1);
        due("nobody GOES by a COUNT of 1", x.told(4), 0);
        x.turn();
        due("all there", x.told(4), 3);
        due("the last FAR", Yards.read(x, "far 9;far 31"), 1);
        due("told(1)", x.told(1), 31);
    }
}
