/** Promises 10 to 14: turns. What is due was worked out by hand from the document. */
public final class TurnsTest {
    private static final int MAX = Integer.MAX_VALUE, MIN = Integer.MIN_VALUE;
    private static final Due DUE = new Due("TurnsTest");

    public static void main(String[] args) {
        turnAlone();
        turnByHowAllWas();
        turnSees();
        turnLooksAtTheRest();
        turnBySharp();
        turnAtLast();
        on();
        onRefused();
        touches();
        touchesLate();
        first();
        risks();
        whatIsAskedChangesNothing();
        DUE.end();
    }

    private static void due(String call, long got, long want) {
        DUE.is(call, got, want);
    }

    /** A CHILD with 8 GOES 8 and WOBBLES 2; a RECKLESS one with 8 GOES 24 and WOBBLES 11. */
    private static WhileSheLooks two(String text) {
        return Yards.with(text, 0, 8, 4, 8);
    }

    private static void turnAlone() {
        WhileSheLooks x = two("");
        int[] at = {8, 16, 24, 32, 40, 40};
        for (int i = 0; i < at.length; i++) {
            due("turn() " + i, x.turn(), 2);
            due("TURN", x.told(0), i + 1);
            due("AT of the CHILD", x.of(0, 2), at[i]);
            due("AT of the RECKLESS one", x.of(1, 2), 0);
            due("SENT of it", x.of(1, 4), i + 1);
            due("who is there", x.told(4), i < 4 ? 0 : 1);
        }
        due("SENT of the CHILD", x.of(0, 4), 0);
        WhileSheLooks nobody = new WhileSheLooks();
        due("turn() of nobody", nobody.turn(), 0);
        due("TURN of nobody", nobody.told(0), 1);
    }

    private static void turnByHowAllWas() {
        // WOBBLES is told by AT and TURN ahead of the TURN: AT 0 then, AT 8 (a is 1) behind it.
        WhileSheLooks x = Yards.with("wobble 9 a=1&t=1", 0, 8);
        due("a is 0", x.turn(), 0);
        due("a is 1", x.turn(), 1);
        due("sent back", x.of(0, 2), 0);
        x.set(0, 0, 4);
        due("t is 2", x.turn(), 0);
        // GOES too: the COUNT of TURN 3, and the ROW's.
        WhileSheLooks y = Yards.with("", 6, 0);
        Yards.counts(y, 2, 5, 1, 1);
        y.row(0, 0, 1);
        y.row(0, 1, 4);
        y.turn();
        due("PACE 2, 1 beat", y.of(0, 2), 2);
        y.turn();
        due("PACE 5, 4 beats", y.of(0, 2), 22);
        y.turn();
        due("no beat", y.of(0, 2), 22);
    }

    private static void turnSees() {
        WhileSheLooks x = two("sees 1");
        x.set(0, 0, 10);
        due("the RECKLESS one is AT most: 24", x.turn(), 2);
        due("the other", x.of(0, 2), 18);
        x.set(0, 0, 16);
        due("both AT 24: the lesser number first", x.turn(), 0);
        due("AT of it", x.of(1, 2), 24);
        WhileSheLooks none = two("sees 0");
        due("SHE sees nobody", none.turn(), 0);
        due("AT of it", none.of(1, 2), 24);
        due("nor then", none.turn(), 0);
        due("it is there", none.told(4), 2);
        WhileSheLooks same = Yards.with("sees 2", 4, 8, 4, 8, 4, 8);
        due("of three the first two", same.turn(), 3);
        due("SENT of the third", same.of(2, 4), 0);
        due("AT of the third", same.of(2, 2), 24);
        same.set(0, 0, 1);
        due("the third is there, the others are looked at", same.turn(), 3);
        due("who is there", same.told(4), 4);
    }

    private static void turnLooksAtTheRest() {
        // Who is at THE WALL, or touches it in this TURN, is not looked at.
        WhileSheLooks x = two("sees 1");
        x.set(0, 0, 32);
        due("the CHILD touches, the other is sent back", x.turn(), 2);
        due("who is there", x.told(4), 1);
        due("again", x.turn(), 2);
        // Who WOBBLES more than SHARP, but is there, is not sent back.
        x.set(1, 0, 16);
        due("it just gets there", x.turn(), 0);
        due("both there", x.told(4), 3);
        due("nobody is left", x.turn(), 0);
        due("AT", x.of(1, 2), 40);
        // A RECKLESS one WOBBLES 1 where it stands.
        WhileSheLooks y = Yards.with("sharp 0", 4, 0, 0, 0);
        y.counts(0, 1);
        y.set(0, 0, 30);
        y.set(1, 0, 30);
        due("it stands and is sent back", y.turn(), 1);
        due("the CHILD stands and is not", y.of(1, 2), 30);
    }

    private static void turnBySharp() {
        WhileSheLooks at = two("sharp 11");
        due("WOBBLES as SHARP is not more", at.turn(), 0);
        WhileSheLooks below = two("sharp 10");
        due("WOBBLES 1 more than SHARP", below.turn(), 2);
        WhileSheLooks none = two("sharp 1");
        due("both", none.turn(), 3);
        due("SENT of one", none.of(0, 4), 1);
        due("SENT of the other", none.of(1, 4), 1);
    }

    /** No object is used for so many calls: but this is the only way to see that TURN ends. */
    private static void turnAtLast() {
        WhileSheLooks x = Yards.with("", 4, 8);
        for (int i = 0; i < 9999; i++) {
            x.turn();
        }
        due("TURN", x.told(0), 9999);
        due("SENT", x.of(0, 4), 9999);
        due("turn() at last", x.turn(), -3);
        due("TURN then", x.told(0), 9999);
        due("what is asked goes on", x.on(40, 1), 1);
        x.set(0, 0, 16);
        due("and on", x.on(1, 0), 1);
        due("TURN then", x.told(0), 9999);
    }

    private static void on() {
        WhileSheLooks x = two("sees 1");
        x.set(0, 0, 30);
        int[][] due = {{30, 0, 0, 0}, {38, 24, 0, 0}, {40, 40, 2, 0}, {40, 40, 2, 0}};
        for (int n = 0; n < due.length; n++) {
            due("on(" + n + ", 10)", x.on(n, 10), due[n][0]);
            due("on(" + n + ", 11)", x.on(n, 11), due[n][1]);
            due("on(" + n + ", 0)", x.on(n, 0), due[n][2]);
            due("on(" + n + ", 1)", x.on(n, 1), due[n][3]);
        }
        x.set(0, 0, 0);
        due("sent back at first", x.on(1, 1), 2);
        due("sent back in any of them", x.on(6, 1), 2);
        due("a tie in the third shields it", x.on(3, 11), 24);
        due("it is there by 4", x.on(4, 0), 1);
        due("the CHILD too by 5", x.on(5, 0), 2);
        due("on(40, 10)", x.on(40, 10), 40);
        x.turn();
        due("on(0, 1) forgets", x.on(0, 1), 0);
        WhileSheLooks y = Yards.with("wobble 9 c=0&t=0|c=1&t=1", 0, 8, 0, 8, 0, 8);
        due("on(1, 1)", y.on(1, 1), 1);
        due("on(2, 1): in either TURN", y.on(2, 1), 3);
        due("AT by then", y.on(2, 10), 8);
        due("AT by then", y.on(2, 11), 0);
    }

    private static void onRefused() {
        WhileSheLooks x = two("");
        due("on(-1, 0)", x.on(-1, 0), -2);
        due("on(41, 0)", x.on(41, 0), -2);
        due("on(41, 11)", x.on(41, 11), -2);
        due("on(41, 2): NONE first", x.on(41, 2), -1);
        due("on(1, 12)", x.on(1, 12), -1);
        due("on(1, 9)", x.on(1, 9), -1);
        due("on(1, -1)", x.on(1, -1), -1);
        due("on(1, MIN)", x.on(1, MIN), -1);
        due("on(1, MIN + 9)", x.on(1, MIN + 9), -1);
        due("on(1, MAX)", x.on(1, MAX), -1);
        due("on(MAX, 1)", x.on(MAX, 1), -2);
    }

    private static void touches() {
        WhileSheLooks x = two("");
        due("five times 8", x.touches(0), 5);
        due("sent back each time", x.touches(1), -5);
        x.set(1, 0, 15);
        due("24 and 15 is not enough", x.touches(1), -5);
        x.set(1, 0, 16);
        due("24 and 16 is", x.touches(1), 1);
        x.turn();
        due("there now", x.touches(1), 0);
        due("the other goes on", x.touches(0), 4);
        due("touches(2)", x.touches(2), -1);
        due("touches(-1)", x.touches(-1), -1);
        due("touches(MAX)", x.touches(MAX), -1);
        due("touches(MIN)", x.touches(MIN), -1);
    }

    private static void touchesLate() {
        // PACE 1, one beat in each fourth TURN: AT 15 is FAR behind TURN 57, 16 behind TURN 61.
        for (int far = 15; far <= 16; far++) {
            WhileSheLooks x = Yards.with("far " + far, 3, 0);
            Yards.counts(x, 2, 1, 1, 1);
            due("far " + far, x.touches(0), far == 15 ? 57 : -5);
            x.turn();
            due("far " + far + " one TURN on", x.touches(0), far == 15 ? 56 : 60);
        }
    }

    private static void first() {
        due("nobody", new WhileSheLooks().first(), -5);
        WhileSheLooks x = Yards.with("", 4, 8, 0, 8, 0, 8, 0, 0);
        due("of several the first", x.first(), 1);
        x.set(2, 0, 1);
        due("the same number of TURNS", x.first(), 1);
        x.set(2, 0, 8);
        due("fewer TURNS", x.first(), 2);
        x.set(2, 0, 39);
        x.turn();
        due("who is there now is not asked for", x.first(), 1);
        x.set(0, 0, 16);
        due("the first of all, at once", x.first(), 0);
        x.set(0, 0, 0);
        x.set(1, 1, 9);
        due("slower than none", x.first(), 3);
        x.set(3, 1, 9);
        due("nobody gets there", x.first(), -5);
        WhileSheLooks seven = Yards.with("", 0, 0, 0, 0, 0, 0, 0, 0, 0, 0, 0, 0, 0, 8);
        due("the seventh", seven.first(), 6);
        WhileSheLooks all = Yards.with("far 1", 0, 8);
        all.turn();
        due("all are there", all.first(), -5);
    }

    private static void risks() {
        due("nobody", new WhileSheLooks().risks(), 0);
        WhileSheLooks x = Yards.with("", 4, 8, 0, 8, 1, 8, 0, 8);
        due("11, 2, 4, 2 against 3", x.risks(), 5);
        Yards.read(x, "sharp 4");
        due("against 4", x.risks(), 1);
        Yards.read(x, "sharp 1");
        due("against 1", x.risks(), 15);
        Yards.read(x, "sharp 1;sees 0;far 1");
        due("whatever SHE sees", x.risks(), 15);
        x.set(1, 1, 9);
        due("who stands", x.risks(), 13);
        x.turn();
        due("who is there is not at risk", x.risks(), 0);
    }

    private static void whatIsAskedChangesNothing() {
        WhileSheLooks x = Yards.with("wobble 3 a>2;sees 2;far 33", 4, 8, 0, 8, 6, 9, 1, 2);
        Yards.counts(x, 4, 2, 7, 3);
        x.row(2, 1, 5);
        x.see(1, 2, 20);
        x.book(1, 5);
        x.turn();
        String before = all(x);
        x.on(40, 10);
        x.touches(0);
        x.first();
        x.risks();
        x.stands(1);
        x.slow(20, 0);
        x.order(20, 0);
        x.look(20);
        x.needs(2, 8);
        x.held(3, 20);
        x.shield(0, 1, 20);
        x.since();
        x.who(20, 5);
        x.odds(20, 0);
        x.mean(40, 1);
        x.looked();
        DUE.isTrue("all is as before: " + before + " and " + all(x), before.equals(all(x)));
    }

    private static String all(WhileSheLooks x) {
        StringBuilder text = new StringBuilder();
        for (int c = 0; c < x.count(0); c++) {
            for (int what = 0; what <= 8; what++) {
                text.append(x.of(c, what)).append(' ');
            }
        }
        for (int what : new int[] {0, 1, 2, 3, 4, 10, 11, 12, 13}) {
            text.append(x.told(what)).append(' ');
        }
        for (int what = 0; what < 6; what++) {
            text.append(x.count(what)).append(' ');
        }
        return text.toString();
    }
}
