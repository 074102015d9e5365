/** Promises 15 to 21: what is best. What is due was worked out by hand from the document. */
public final class BestTest {
    private static final int MAX = Integer.MAX_VALUE, MIN = Integer.MIN_VALUE;
    private static final Due DUE = new Due("BestTest");

    public static void main(String[] args) {
        stands();
        slow();
        slowTies();
        order();
        orderFromTheTurnOn();
        look();
        lookAtThoseWhoAreThere();
        needs();
        held();
        heldLater();
        shield();
        shieldBelow();
        refused();
        DUE.end();
    }

    private static void due(String call, long got, long want) {
        DUE.is(call, got, want);
    }

    private static void stands() {
        WhileSheLooks x = Yards.with("", 0, 8);
        due("EARLY 0 WOBBLES 4: 1 is best", x.stands(0), 1);
        Yards.read(x, "sharp 9");
        due("EARLY 0 takes 4 TURNS", x.stands(0), 0);
        x.set(0, 0, 39);
        due("of several the greatest that GOES", x.stands(0), 2);
        x.turn();
        due("there now: by all", x.stands(0), 9);
        x.set(0, 0, 0);
        Yards.counts(x, 1, 1, 1, 1);
        Yards.read(x, "sharp 0");
        due("by none", x.stands(0), -5);
        x.counts(3, 2);
        due("EARLY 1 in each fourth TURN", x.stands(0), -5);
        Yards.read(x, "sharp 2");
        due("4 in each fourth TURN, and 2 WOBBLES", x.stands(0), 1);
        due("EARLY stays", x.of(0, 3), 1);
    }

    private static void slow() {
        WhileSheLooks x = Yards.with("", 0, 8);
        due("5 TURNS by 2", x.slow(5, 0), 2);
        due("nobody", x.slow(5, 1), 0);
        due("4 TURNS by 3", x.slow(4, 0), 3);
        due("20 TURNS by 1", x.slow(20, 0), 1);
        due("nobody", x.slow(20, 1), 0);
        due("1 TURN by 9: 32", x.slow(1, 0), 9);
        x.set(0, 0, 8);
        due("1 TURN by 8: 28 and 8", x.slow(1, 0), 8);
        due("her COUNTS stay", x.told(10), 3);
        // AT 36 in TURN 1: a COUNT of 2 gets it there.
        x.turn();
        x.set(0, 0, 36);
        Yards.counts(x, 9, 1, 9, 9);
        due("all four, whatever they are", x.slow(1, 0), 1);
    }

    private static void slowTies() {
        WhileSheLooks x = Yards.with("sharp 9", 0, 8, 0, 8, 3, 0);
        x.set(0, 1, 0);
        x.set(0, 0, 38);
        x.set(1, 0, 36);
        due("the first gets there by each COUNT", x.slow(1, 1), 1);
        due("the second by 2", x.slow(1, 0), 1);
        x.set(1, 0, 0);
        due("of several the greatest", x.slow(1, 0), 9);
        due("one", x.slow(1, 1), 1);
    }

    private static void orders(WhileSheLooks x, int n, int there, int... row) {
        due("order(" + n + ", -1)", x.order(n, -1), there);
        for (int k = 0; k < 4; k++) {
            due("order(" + n + ", " + k + ")", x.order(n, k), row[k]);
        }
    }

    private static void order() {
        WhileSheLooks x = Yards.with("", 0, 8);
        // GOES 32, 8, 4, 0 by 9, 3, 2, 1.
        Yards.counts(x, 1, 2, 3, 9);
        orders(x, 2, 0, 1, 2, 3, 9);
        Yards.counts(x, 9, 3, 2, 1);
        orders(x, 2, 0, 9, 2, 3, 1);
        orders(x, 3, 0, 9, 2, 1, 3);
        orders(x, 1, 0, 9, 3, 2, 1);
        orders(x, 4, 1, 9, 3, 2, 1);
        x.set(0, 0, 8);
        orders(x, 1, 0, 3, 9, 2, 1);
        x.set(0, 0, 37);
        orders(x, 1, 0, 1, 9, 3, 2);
        orders(x, 20, 1, 9, 3, 2, 1);
        due("her COUNTS stay", x.told(10), 9);
        Yards.counts(x, 3, 9, 3, 9);
        x.set(0, 0, 8);
        orders(x, 1, 0, 3, 9, 3, 9);
    }

    private static void orderFromTheTurnOn() {
        WhileSheLooks x = Yards.with("", 0, 8);
        Yards.counts(x, 1, 9, 3, 2);
        x.turn();
        due("AT", x.of(0, 2), 0);
        orders(x, 2, 0, 1, 9, 2, 3);
    }

    private static void look() {
        WhileSheLooks x = Yards.with("", 4, 8);
        due("1 TURN: none gets there unseen", x.look(1), 0);
        due("2 TURNS: SHE must see one", x.look(2), 1);
        due("20 TURNS", x.look(20), 1);
        due("SEES stays", x.told(3), 9);
        Yards.read(x, "sees 0");
        due("whatever SEES is", x.look(20), 1);
        WhileSheLooks calm = Yards.with("", 0, 8);
        due("a CHILD gets there whatever she sees", calm.look(5), -5);
        due("not by 4", calm.look(4), 0);
        WhileSheLooks many = new WhileSheLooks();
        for (int c = 0; c < 7; c++) {
            many.child(4, 8);
        }
        due("all seven", many.look(20), 7);
        due("nobody at all", new WhileSheLooks().look(20), 0);
    }

    private static void lookAtThoseWhoAreThere() {
        WhileSheLooks x = Yards.with("", 0, 8, 4, 8);
        x.set(0, 0, 39);
        x.turn();
        due("one is there now: no more", x.look(20), 1);
        x.set(1, 1, 9);
        due("the other stands", x.look(20), 0);
    }

    private static void needs() {
        WhileSheLooks x = Yards.with("", 0, 8, 4, 8);
        due("8 are missing", x.needs(0, 1), 32);
        due("16 are missing", x.needs(0, 2), 24);
        due("none in 5", x.needs(0, 5), 0);
        due("none in 8", x.needs(0, 8), 0);
        due("a RECKLESS one must get there at once", x.needs(1, 1), 16);
        due("in 8 too", x.needs(1, 8), 16);
        due("AT stays", x.of(0, 2), 0);
        x.set(0, 0, 39);
        x.turn();
        due("were it not there now", x.needs(0, 1), 32);
        due("it is", x.told(4), 1);
        x.set(0, 1, 9);
        due("by none", x.needs(0, 8), -5);
        Yards.read(x, "far 99");
        x.set(0, 1, 1);
        due("far 99", x.needs(0, 1), 91);
        Yards.read(x, "far 1");
        due("far 1", x.needs(0, 1), 0);
    }

    private static void held() {
        WhileSheLooks x = Yards.with("", 4, 8);
        due("AT 0 either way: the least", x.held(0, 1), 0);
        x.set(0, 0, 10);
        due("it keeps AT 10 by standing", x.held(0, 1), 1);
        due("in all of 5", x.held(0, 5), 5);
        x.set(0, 0, 16);
        due("it gets there", x.held(0, 5), 0);
        x.turn();
        due("it is there", x.held(0, 5), 0);
        x.set(0, 0, 10);
        Yards.read(x, "sharp 0");
        due("one who is held WOBBLES 0, RECKLESS or not", x.held(0, 1), 1);
    }

    private static void heldLater() {
        // Behind the CHILD, of whom alone SHE takes note, the RECKLESS one goes on.
        WhileSheLooks x = Yards.with("sees 1;far 60", 0, 8, 4, 8);
        x.set(0, 0, 20);
        due("24 and 28: shielded now, then it gets ahead", x.on(1, 11), 24);
        due("it is sent back in the second TURN", x.on(2, 11), 0);
        due("held in the first, it is there still", x.held(1, 2), 1);
        due("AT of it stays", x.of(1, 2), 0);
        due("held in none, for one TURN", x.held(1, 1), 0);
        due("the CHILD best goes", x.held(0, 20), 0);
    }

    private static void shield() {
        WhileSheLooks x = Yards.with("sees 1", 0, 8, 4, 8);
        x.set(0, 0, 30);
        due("shield(1, 0, 1)", x.shield(1, 0, 1), 24);
        due("shield(1, 0, 2)", x.shield(1, 0, 2), 40);
        due("shield(0, 1, 1)", x.shield(0, 1, 1), 0);
        due("nobody is there now", x.told(4), 0);
        x.set(0, 0, 39);
        x.turn();
        due("by one who is there already", x.shield(1, 0, 2), 0);
    }

    private static void shieldBelow() {
        WhileSheLooks x = Yards.with("sees 1;wobble 9 c=0", 0, 8, 0, 8, 4, 8);
        x.set(1, 0, 30);
        due("AT of the first", x.on(2, 10), 0);
        due("were the second there, it would be AT 16", x.shield(0, 1, 2), -16);
        WhileSheLooks y = Yards.with("sees 1", 0, 8, 4, 8, 0, 8);
        y.set(0, 0, 30);
        y.set(2, 0, 39);
        y.turn();
        y.set(0, 0, 30);
        y.set(1, 0, 0);
        Yards.read(y, "sees 1;far 60");
        due("a third who is there stays there", y.shield(1, 0, 1), 24);
    }

    private static void refused() {
        WhileSheLooks x = Yards.with("", 0, 8, 4, 8);
        due("stands(2)", x.stands(2), -1);
        due("stands(-1)", x.stands(-1), -1);
        due("slow(3, 2)", x.slow(3, 2), -1);
        due("slow(3, -1)", x.slow(3, -1), -1);
        due("slow(0, 2): NONE first", x.slow(0, 2), -1);
        due("slow(0, 0)", x.slow(0, 0), -2);
        due("slow(21, 1)", x.slow(21, 1), -2);
        due("order(1, -2)", x.order(1, -2), -1);
        due("order(1, 4)", x.order(1, 4), -1);
        due("order(0, 4): NONE first", x.order(0, 4), -1);
        due("order(0, -1)", x.order(0, -1), -2);
        due("order(21, 0)", x.order(21, 0), -2);
        due("look(0)", x.look(0), -2);
        due("look(21)", x.look(21), -2);
        due("look(MIN)", x.look(MIN), -2);
        due("needs(2, 0): NONE first", x.needs(2, 0), -1);
        due("needs(0, 0)", x.needs(0, 0), -2);
        due("needs(0, 9)", x.needs(0, 9), -2);
        due("held(-1, 0): NONE first", x.held(-1, 0), -1);
        due("held(0, 0)", x.held(0, 0), -2);
        due("held(0, 21)", x.held(0, 21), -2);
        due("held(0, MAX)", x.held(0, MAX), -2);
        due("shield(2, 0, 1)", x.shield(2, 0, 1), -1001);
        due("shield(0, -1, 1)", x.shield(0, -1, 1), -1001);
        due("shield(2, 2, 0): NONE first", x.shield(2, 2, 0), -1001);
        due("shield(0, 0, 1)", x.shield(0, 0, 1), -1002);
        due("shield(0, 1, 0)", x.shield(0, 1, 0), -1002);
        due("shield(0, 1, 21)", x.shield(0, 1, 21), -1002);
        due("shield(0, 1, 20)", x.shield(0, 1, 20), 0);
        due("needs(0, 8)", x.needs(0, 8), 0);
        due("held(0, 20)", x.held(0, 20), 0);
        due("look(20)", x.look(20), -5);
    }
}
