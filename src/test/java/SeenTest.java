/** Promises 22 to 28: seen, odds, books. What is due was worked out by hand from the document. */
public final class SeenTest {
    private static final long NO = WhileSheLooks.NO;
    private static final int MAX = Integer.MAX_VALUE, MIN = Integer.MIN_VALUE;
    private static final Due DUE = new Due("SeenTest");

    public static void main(String[] args) {
        see();
        since();
        sinceAll();
        sinceFromNow();
        who();
        odds();
        oddsEnds();
        mean();
        book();
        looked();
        DUE.end();
    }

    private static void due(String call, long got, long want) {
        DUE.is(call, got, want);
    }

    private static void see() {
        WhileSheLooks x = Yards.with("", 0, 8, 0, 8);
        due("see(2, 0, 0)", x.see(2, 0, 0), -1);
        due("see(-2, 0, 0)", x.see(-2, 0, 0), -1);
        due("see(2, 21, 0): NONE first", x.see(2, 21, 0), -1);
        due("see(0, -1, 0)", x.see(0, -1, 0), -2);
        due("see(0, 21, 0)", x.see(0, 21, 0), -2);
        due("see(0, 0, -1)", x.see(0, 0, -1), -2);
        due("see(0, 0, 100)", x.see(0, 0, 100), -2);
        due("nothing came", x.count(2), 0);
        due("see(0, 20, 99)", x.see(0, 20, 99), 1);
        due("see(1, 0, 0)", x.see(1, 0, 0), 2);
        due("see(1, 0, 0)", x.see(1, 0, 0), 3);
        due("see(0, 5, 40)", x.see(0, 5, 40), 4);
        due("a fifth", x.see(0, 5, 40), -4);
        due("a fifth, BAD first", x.see(0, 5, 100), -2);
        due("count(2)", x.count(2), 4);
        due("see(-1, MIN, MAX)", x.see(-1, MIN, MAX), 0);
        due("none then", x.count(2), 0);
        due("see(-1, 0, 0)", x.see(-1, 0, 0), 0);
        due("anew", x.see(0, 0, 0), 1);
    }

    /** GOES 8, 4, 0, 32 by her COUNTS from 0 on. */
    private static WhileSheLooks one() {
        WhileSheLooks x = Yards.with("", 0, 8, 3, 0);
        Yards.counts(x, 3, 2, 1, 9);
        return x;
    }

    private static void since() {
        WhileSheLooks x = one();
        due("nothing SEEN: all", x.since(), 15);
        int[][] seen = {{0, 0, 15}, {1, 4, 2}, {1, 8, 1}, {1, 0, 4}, {1, 32, 8}, {2, 4, 2}, {2, 12, 1},
            {2, 32, 4}, {2, 40, 8}, {4, 40, 15}, {3, 36, 2}, {3, 40, 12}, {3, 12, 1}, {1, 5, 0}, {0, 1, 0}};
        for (int[] row : seen) {
            x.see(-1, 0, 0);
            x.see(0, row[0], row[1]);
            due("AT " + row[1] + " behind " + row[0], x.since(), row[2]);
        }
        due("TURN stays", x.told(0), 0);
    }

    private static void sinceAll() {
        WhileSheLooks x = one();
        x.see(0, 3, 40);
        due("k 2 or 3", x.since(), 12);
        x.see(0, 2, 32);
        due("all of SEEN is so by 2", x.since(), 4);
        x.see(1, 2, 8);
        due("the SMALL one too: 0 and 8 beats", x.since(), 4);
        x.see(1, 20, 39);
        due("none", x.since(), 0);
    }

    private static void sinceFromNow() {
        WhileSheLooks x = one();
        x.see(0, 1, 12);
        due("from the start", x.since(), 0);
        x.turn();
        due("AT 8 and 4 is 12, now that TURN is 1", x.since(), 1);
        x.turn();
        due("AT 12 and 0", x.since(), 1);
        x.turn();
        due("TURN 3 and 3 more", x.since(), 8);
    }

    private static void who() {
        WhileSheLooks x = Yards.with("", 0, 8, 3, 0, 0, 8);
        due("all AT 0", x.who(0, 0), 7);
        due("AT 8 behind 1", x.who(1, 8), 5);
        due("AT 2 behind 1", x.who(1, 2), 2);
        due("AT 3 behind 1", x.who(1, 3), 0);
        due("AT THE WALL behind 20", x.who(20, 40), 7);
        due("behind 19", x.who(19, 40), 5);
        due("who(-1, 0)", x.who(-1, 0), -2);
        due("who(21, 0)", x.who(21, 0), -2);
        due("who(0, -1)", x.who(0, -1), -2);
        due("who(0, 100)", x.who(0, 100), -2);
        due("who(0, 99)", x.who(0, 99), 0);
        due("nobody", new WhileSheLooks().who(5, 0), 0);
    }

    private static void odds(WhileSheLooks x, int n, long above, long below) {
        due("odds(" + n + ", 0)", x.odds(n, 0), above);
        due("odds(" + n + ", 1)", x.odds(n, 1), below);
    }

    private static void odds() {
        // It GOES by the COUNT of 3 alone, and is sent back then.
        WhileSheLooks x = Yards.with("", 4, 8);
        Yards.counts(x, 3, 1, 1, 1);
        odds(x, 1, 3, 4);
        odds(x, 2, 1, 2);
        odds(x, 3, 1, 4);
        odds(x, 4, 0, 1);
        odds(x, 20, 0, 1);
        x.turn();
        odds(x, 1, 3, 4);
        x.set(0, 0, 16);
        odds(x, 20, 1, 1);
        due("TURN stays", x.told(0), 1);
        due("SENT stays", x.of(0, 4), 1);
        WhileSheLooks later = Yards.with("wobble 20 t>1&t<6", 0, 8);
        odds(later, 1, 1, 2);
        odds(later, 2, 1, 4);
        odds(later, 3, 0, 1);
    }

    private static void oddsEnds() {
        WhileSheLooks x = new WhileSheLooks();
        odds(x, 1, 1, 1);
        odds(x, 20, 1, 1);
        due("odds(0, 0)", x.odds(0, 0), NO);
        due("odds(21, 0)", x.odds(21, 0), NO);
        due("odds(1, 2)", x.odds(1, 2), NO);
        due("odds(1, -1)", x.odds(1, -1), NO);
        due("odds(MIN, MAX)", x.odds(MIN, MAX), NO);
    }

    private static void mean(WhileSheLooks x, int n, long above, long below) {
        due("mean(" + n + ", 0)", x.mean(n, 0), above);
        due("mean(" + n + ", 1)", x.mean(n, 1), below);
    }

    private static void mean() {
        WhileSheLooks nobody = new WhileSheLooks();
        due("nobody above", nobody.mean(0, 0), NO);
        due("nobody below", nobody.mean(0, 1), NO);
        WhileSheLooks x = Yards.with("", 0, 8, 3, 0, 3, 0, 3, 0, 3, 0, 3, 0);
        mean(x, 0, 0, 1);
        mean(x, 1, 3, 1);
        x.set(0, 0, 1);
        mean(x, 0, 1, 6);
        x.set(0, 0, 4);
        mean(x, 0, 2, 3);
        mean(x, 1, 11, 3);
        mean(x, 40, 40, 1);
        due("mean(-1, 0)", x.mean(-1, 0), NO);
        due("mean(41, 0)", x.mean(41, 0), NO);
        due("mean(0, 2)", x.mean(0, 2), NO);
        due("mean(0, -1)", x.mean(0, -1), NO);
        due("AT stays", x.of(0, 2), 4);
    }

    private static void book() {
        WhileSheLooks x = Yards.with("", 0, 8);
        due("book(1, 100): NONE first", x.book(1, 100), -1);
        due("book(-2, 0)", x.book(-2, 0), -1);
        due("book(0, -1)", x.book(0, -1), -2);
        due("book(0, 100)", x.book(0, 100), -2);
        for (int i = 1; i <= 8; i++) {
            due("book(0, 99)", x.book(0, 99), i);
        }
        due("a ninth", x.book(0, 0), -4);
        due("a ninth, BAD first", x.book(0, 100), -2);
        due("a ninth, NONE first", x.book(7, 0), -1);
        due("count(3)", x.count(3), 8);
        due("book(-1, MIN)", x.book(-1, MIN), 0);
        due("empty", x.count(3), 0);
        due("book(0, 0)", x.book(0, 0), 1);
    }

    private static void looked() {
        WhileSheLooks x = Yards.with("", 0, 8, 0, 8);
        due("no rows", x.looked(), -5);
        x.book(0, 0);
        x.book(1, 0);
        due("all so", x.looked(), -5);
        x.set(1, 0, 5);
        due("the second is otherwise", x.looked(), 1);
        x.book(0, 1);
        due("the first of these", x.looked(), 1);
        x.set(0, 0, 1);
        due("the first row is otherwise", x.looked(), 0);
        x.book(-1, 0);
        due("empty again", x.looked(), -5);
        x.book(0, 9);
        x.turn();
        due("AT 9 now", x.looked(), -5);
        x.turn();
        due("AT 17 now", x.looked(), 0);
    }
}
