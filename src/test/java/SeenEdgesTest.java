/**
 * Promises 22 to 28: each sentence that names an edge, at the edge and on either side of it. A SMALL one with 0
 * GOES 1 by COUNTS of 2; a CHILD with 8 GOES 8, 4, 0, 32 by 3, 2, 1, 9.
 */
public final class SeenEdgesTest {
    private static final Due DUE = new Due("SeenEdgesTest");
    private static final Runs RUNS = new Runs(DUE);
    private static final String BY_TWO = " counts(0, 2)=3 counts(1, 2)=3 counts(2, 2)=3 counts(3, 2)=3 ";

    public static void main(String[] args) {
        see();
        seeEmpties();
        sinceLate();
        sinceEach();
        sinceAll();
        who();
        whoLate();
        odds();
        oddsRefused();
        mean();
        meanRefused();
        book();
        looked();
        DUE.end();
    }

    private static void see() {
        RUNS.says("SEEN told by hand: a CHILD, AT (0 .. 99) behind n TURNS (0 .. 20)")
            .go("child(0, 8) see(0, MIN, 0)=BAD see(0, -1, 0)=BAD see(0, 21, 0)=BAD see(0, MAX, 0)=BAD see(0, 0, MIN)=BAD")
            .go("see(0, 0, -1)=BAD see(0, 0, 100)=BAD see(0, 0, MAX)=BAD count(2)=0 see(0, 0, 0)=1 see(0, 20, 99)=2 count(2)=2")
            .go("see(1, 0, 0)=NONE see(-2, 0, 0)=NONE see(MIN, 0, 0)=NONE see(MAX, 0, 0)=NONE count(2)=2");
        RUNS.says("SEEN (4 at most)")
            .go("child(0, 8) see(0, 0, 0)=1 see(0, 0, 0)=2 see(0, 0, 0)=3 see(0, 0, 0)=4 see(0, 0, 0)=FULL count(2)=4")
            .go("see(0, 21, 0)=BAD see(1, 21, 100)=NONE since()=15 see(-1, 0, 0)=0 see(0, 0, 0)=1");
        RUNS.says("see: the one refused as FULL is not SEEN")
            .go("child(0, 8) see(0, 0, 0)=1 see(0, 0, 0)=2 see(0, 0, 0)=3 see(0, 0, 0)=4 see(0, 0, 1)=FULL since()=15");
    }

    private static void seeEmpties() {
        RUNS.says("child -1: none then, 0, whatever the others are")
            .go("see(-1, 0, 0)=0 see(-1, MIN, MAX)=0 child(0, 8) see(0, 0, 1)=1 since()=0 see(-1, -1, 100)=0 count(2)=0")
            .go("since()=15 see(0, 0, 1)=1 see(0, 0, 2)=2 see(0, 0, 3)=3 see(0, 0, 4)=4 see(-1, 21, -1)=0 count(2)=0 since()=15")
            .go("see(0, 0, 0)=1 since()=15");
    }

    private static void sinceLate() {
        RUNS.says("AT behind n TURNS (0 .. 20) from now: behind 20 too")
            .go("child(3, 0)" + BY_TWO + "see(0, 20, 20)=1 since()=15 see(0, 19, 19)=2 since()=15 see(0, 20, 19)=3 since()=0")
            .anew("child(3, 0)" + BY_TWO + "see(0, 20, 21)=1 since()=0");
        RUNS.says("AT (0 .. 99): 99 too")
            .go("child(3, 0)" + BY_TWO + "yard{far 99} set(0, 0, 79) see(0, 20, 99)=1 since()=15 set(0, 0, 78) since()=0")
            .go("set(0, 0, 98) since()=15 see(0, 0, 98)=2 since()=15 see(0, 0, 99)=3 since()=0");
    }

    private static void sinceEach() {
        RUNS.says("SINCE: those k of 0 .. 3, as bits, by which, were TURN k more now, all of SEEN is so")
            .go("since()=15 child(0, 8) since()=15 counts(0, 1) counts(1, 2) counts(2, 3) counts(3, 9)")
            .go("see(0, 1, 0)=1 since()=1 see(-1, 0, 0)=0 see(0, 1, 4)=1 since()=2 see(-1, 0, 0)=0 see(0, 1, 8)=1 since()=4")
            .go("see(-1, 0, 0)=0 see(0, 1, 32)=1 since()=8 see(-1, 0, 0)=0 see(0, 0, 0)=1 since()=15 see(0, 4, 40)=2 since()=15")
            .go("see(0, 2, 4)=3 since()=1 told(0)=0 turn()=0 since()=8");
        RUNS.says("were TURN k more now: from TURN 3 on")
            .go("child(0, 8) counts(0, 1) counts(1, 1) counts(2, 3) counts(3, 9) turn()=0 turn()=0 turn()=0 of(0, 2)=8")
            .go("see(0, 1, 40)=1 since()=1 see(-1, 0, 0)=0 see(0, 1, 16)=1 since()=8 see(-1, 0, 0)=0 see(0, 1, 8)=1 since()=6");
        RUNS.says("were TURN k more now: the letter t too")
            .go("child(0, 8) counts(0, 2) counts(1, 2) counts(2, 2) counts(3, 2) yard{wobble 9 t=2} see(0, 1, 0)=1 since()=4");
    }

    private static void sinceAll() {
        RUNS.says("all of SEEN is so: the first, the last, of another one")
            .go("child(0, 8) child(3, 0) see(0, 0, 0)=1 see(1, 1, 2)=2 see(0, 1, 8)=3 see(1, 3, 6)=4 since()=15")
            .anew("child(0, 8) child(3, 0) see(0, 0, 1)=1 see(1, 1, 2)=2 see(0, 1, 8)=3 see(1, 3, 6)=4 since()=0")
            .anew("child(0, 8) child(3, 0) see(0, 0, 0)=1 see(1, 1, 2)=2 see(0, 1, 8)=3 see(1, 3, 7)=4 since()=0")
            .anew("child(0, 8) child(3, 0) see(0, 0, 0)=1 see(1, 1, 8)=2 see(0, 1, 8)=3 see(1, 3, 6)=4 since()=0");
    }

    private static void who() {
        RUNS.says("WHO of n TURNS (0 .. 20) and h (0 .. 99)")
            .go("who(0, 0)=0 child(0, 8) who(MIN, 0)=BAD who(-1, 0)=BAD who(0, 0)=1 who(20, 40)=1 who(21, 40)=BAD who(MAX, 0)=BAD")
            .go("who(0, MIN)=BAD who(0, -1)=BAD who(0, 99)=0 who(0, 100)=BAD who(0, MAX)=BAD who(1, 7)=0 who(1, 8)=1 who(1, 9)=0")
            .go("child(3, 8) child(0, 8) child(0, 8) child(0, 8) child(0, 8) child(0, 8) who(1, 8)=125 who(1, 6)=2 who(0, 0)=127");
    }

    private static void whoLate() {
        RUNS.says("who are AT h behind n: behind 20, AT 99")
            .go("child(3, 0)" + BY_TWO + "who(20, 20)=1 who(19, 20)=0 who(20, 21)=0 yard{far 99} set(0, 0, 79) who(20, 99)=1")
            .go("who(19, 99)=0 who(19, 98)=1 of(0, 2)=79");
    }

    private static void odds() {
        // It is sent back in TURNS of which the COUNT is 3 alone.
        RUNS.says("ODDS of n TURNS (1 .. 20): a fraction in lowest terms")
            .go("child(4, 8) counts(0, 1) counts(1, 1) counts(2, 1) odds(1, 0)=3 odds(1, 1)=4 odds(2, 0)=1 odds(2, 1)=2")
            .go("odds(3, 0)=1 odds(3, 1)=4 odds(4, 0)=0 odds(4, 1)=1 odds(20, 0)=0 odds(20, 1)=1 counts(3, 1)")
            .go("odds(20, 0)=1 odds(20, 1)=1 odds(1, 0)=1 odds(1, 1)=1");
        RUNS.says("if TURN is 0, 1, 2 or 3 more now, each alike likely")
            .go("child(0, 8) yard{far 99;wobble 9 t=3} odds(1, 0)=3 odds(1, 1)=4 turn()=0 odds(1, 0)=3 turn()=0 turn()=0")
            .go("odds(1, 0)=3 turn()=1 odds(1, 0)=1 odds(1, 1)=1 odds(2, 0)=1 odds(6, 0)=1 odds(7, 0)=3 odds(7, 1)=4")
            .go("odds(9, 0)=1 odds(9, 1)=4 odds(10, 0)=0 odds(10, 1)=1");
        RUNS.says("how likely nobody is sent back in these: in the twentieth too")
            .go("child(3, 0)" + BY_TWO + "yard{far 99;sharp 0;wobble 9 a=3} odds(15, 0)=1 odds(16, 0)=0")
            .anew("child(3, 0)" + BY_TWO + "yard{far 99;sharp 0;wobble 9 a=3} set(0, 0, 15) set(0, 1, 9) odds(20, 0)=1")
            .anew("child(3, 0) counts(0, 9) counts(1, 1) counts(2, 1) counts(3, 1) yard{far 99;sharp 0;wobble 9 a=6}")
            .go("odds(16, 0)=1 odds(16, 1)=1 odds(17, 0)=3 odds(17, 1)=4 odds(19, 0)=1 odds(19, 1)=4 odds(20, 0)=0 odds(20, 1)=1");
    }

    private static void oddsRefused() {
        RUNS.says("odds: NO; part 0 above, 1 below the line")
            .go("odds(1, 0)=1 odds(1, 1)=1 odds(20, 1)=1 odds(0, 0)=NO odds(21, 0)=NO odds(MIN, 0)=NO odds(MAX, 1)=NO")
            .go("odds(1, -1)=NO odds(1, 2)=NO odds(1, MIN)=NO odds(1, MAX)=NO odds(0, 2)=NO child(0, 8) odds(0, 1)=NO odds(21, 1)=NO");
    }

    private static void mean() {
        RUNS.says("MEAN of n (0 .. 40): a fraction in lowest terms")
            .go("child(0, 8) mean(0, 0)=0 mean(0, 1)=1 mean(1, 0)=8 mean(1, 1)=1 mean(5, 0)=40 child(3, 0) mean(1, 0)=5")
            .go("mean(1, 1)=1 set(0, 0, 1) mean(0, 0)=1 mean(0, 1)=2 set(1, 0, 1) mean(0, 0)=1 mean(0, 1)=1")
            .go("child(3, 0) child(3, 0) mean(0, 0)=1 mean(0, 1)=2 child(3, 0) mean(0, 0)=2 mean(0, 1)=5 child(3, 0)")
            .go("mean(0, 0)=1 mean(0, 1)=3 child(3, 0) mean(0, 0)=2 mean(0, 1)=7 set(2, 0, 5) mean(0, 0)=1 mean(0, 1)=1");
        RUNS.says("MEAN behind 39, 40")
            .go("child(3, 0) child(3, 0)" + BY_TWO + "set(1, 1, 9) mean(39, 0)=39 mean(39, 1)=2 mean(40, 0)=20 mean(40, 1)=1")
            .go("yard{far 39} mean(40, 0)=39 mean(40, 1)=2");
        RUNS.says("MEAN: all seven AT THE WALL")
            .go("child(0, 8) child(0, 8) child(0, 8) child(0, 8) child(0, 8) child(0, 8) child(0, 8) yard{far 99}")
            .go("mean(40, 0)=99 mean(40, 1)=1 set(0, 0, 98) mean(0, 0)=14 mean(0, 1)=1 set(1, 0, 3) mean(0, 0)=101 mean(0, 1)=7");
    }

    private static void meanRefused() {
        RUNS.says("MEAN (NO: nobody is there); part likewise")
            .go("mean(0, 0)=NO mean(0, 1)=NO mean(40, 0)=NO mean(41, 2)=NO child(0, 8) mean(0, 0)=0 mean(-1, 0)=NO")
            .go("mean(40, 0)=40 mean(41, 0)=NO mean(MIN, 0)=NO mean(MAX, 1)=NO mean(0, -1)=NO mean(0, 2)=NO mean(0, MIN)=NO mean(0, MAX)=NO");
    }

    private static void book() {
        RUNS.says("A BOOK told by hand: CHILDREN, AT (0 .. 99; 8 at most)")
            .go("book(0, 0)=NONE child(0, 8) book(0, MIN)=BAD book(0, -1)=BAD book(0, 100)=BAD book(0, MAX)=BAD count(3)=0")
            .go("book(0, 0)=1 book(0, 99)=2 book(1, 0)=NONE book(-2, 0)=NONE book(MIN, 0)=NONE book(MAX, 100)=NONE count(3)=2")
            .go("book(0, 1)=3 book(0, 1)=4 book(0, 1)=5 book(0, 1)=6 book(0, 1)=7 book(0, 1)=8 book(0, 1)=FULL count(3)=8")
            .go("book(0, 100)=BAD book(1, 0)=NONE count(3)=8");
        RUNS.says("child -1: it is empty then, 0, whatever the other is")
            .go("book(-1, 0)=0 child(0, 8) book(-1, MIN)=0 book(0, 1)=1 looked()=0 book(-1, 100)=0 count(3)=0 looked()=NEVER")
            .go("book(0, 1)=1 book(0, 1)=2 book(0, 1)=3 book(0, 1)=4 book(0, 1)=5 book(0, 1)=6 book(0, 1)=7 book(0, 1)=8")
            .go("book(-1, -1)=0 count(3)=0 looked()=NEVER book(0, 0)=1 looked()=NEVER");
    }

    private static void looked() {
        for (int i = 0; i < 8; i++) {
            RUNS.says("LOOKED at: the number of the first of these rows by which it is otherwise now (-5: none)")
                .go("child(0, 8) child(0, 8) set(1, 0, 3) looked()=NEVER");
            for (int row = 1; row <= 8; row++) {
                RUNS.go(row > i ? "book(1, 2)=" + row : "book(1, 3)=" + row);
                RUNS.go("looked()=" + (row > i ? i : -5));
            }
            RUNS.go("book(0, 0)=FULL set(1, 0, 2) looked()=" + (i == 0 ? -5 : 0));
        }
        RUNS.says("LOOKED at: one row of 0, one of 99")
            .go("child(0, 8) yard{far 99} book(0, 0)=1 looked()=NEVER set(0, 0, 98) looked()=0 book(-1, 0)=0 book(0, 99)=1")
            .go("looked()=0 turn()=0 of(0, 2)=99 looked()=NEVER");
    }
}
