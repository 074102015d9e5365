/**
 * Promises 10 to 14: each sentence that names an edge, at the edge and on either side of it. A CHILD with 8
 * GOES 8 and WOBBLES 2, a RECKLESS one with 8 GOES 24 and WOBBLES 11, a SMALL one with 0 GOES 1 by COUNTS of 2.
 */
public final class TurnsEdgesTest {
    private static final Due DUE = new Due("TurnsEdgesTest");
    private static final Runs RUNS = new Runs(DUE);
    private static final String BY_TWO = " counts(0, 2)=3 counts(1, 2)=3 counts(2, 2)=3 counts(3, 2)=3 ";

    public static void main(String[] args) {
        far();
        farOne();
        whoStandsBeyond();
        whoIsThere();
        sees();
        most();
        sharp();
        aheadOfTheTurn();
        sentBack();
        turn();
        onEdges();
        onLate();
        touches();
        touchesLate();
        first();
        firstLate();
        risks();
        calls();
        DUE.end();
    }

    private static void far() {
        RUNS.says("who is AT FAR or more then touches THE WALL, and is AT FAR")
            .go("child(0, 8) child(0, 8) child(0, 8) set(0, 0, 31) set(1, 0, 32) set(2, 0, 33) turn()=0")
            .go("of(0, 2)=39 of(0, 5)=0 of(1, 2)=40 of(1, 5)=1 of(2, 2)=40 of(2, 5)=1 told(4)=6");
        RUNS.says("FAR 99")
            .go("child(0, 8) child(0, 8) yard{far 99} set(0, 0, 90) set(1, 0, 91) turn()=0 of(0, 2)=98 of(1, 2)=99 told(4)=2");
    }

    private static void farOne() {
        RUNS.says("FAR 1 if less: who GOES is there, who GOES 0 is not")
            .go("child(3, 0) child(3, 0) yard{far 0} counts(0, 2) set(1, 1, 2) turn()=0 told(4)=1 of(0, 2)=1 of(1, 2)=0");
    }

    private static void whoStandsBeyond() {
        RUNS.says("who is AT FAR or more then: by a YARD with a lesser FAR, GOES 0 too")
            .go("child(0, 8) set(0, 0, 30) set(0, 1, 9) yard{far 31} told(4)=0 turn()=0 told(4)=0 of(0, 2)=30")
            .go("yard{far 30} told(4)=0 of(0, 2)=30 turn()=0 told(4)=1 of(0, 2)=30");
        RUNS.says("and is AT FAR")
            .go("child(0, 8) set(0, 0, 30) set(0, 1, 9) yard{far 29} of(0, 2)=30 on(1, 10)=29 turn()=0 told(4)=1 of(0, 2)=29");
    }

    private static void whoIsThere() {
        RUNS.says("all who are not at THE WALL go on")
            .go("child(4, 8) child(0, 8) yard{far 20;sharp 99} turn()=0 told(4)=1 yard{far 60} turn()=0 of(0, 2)=20")
            .go("of(1, 2)=16 turn()=0 of(0, 2)=20 of(1, 2)=24 told(4)=1 of(0, 4)=0");
        RUNS.says("Of the others SHE looks: who is at THE WALL is not sent back")
            .go("child(4, 8) set(0, 0, 16) turn()=0 told(4)=1 yard{sharp 0} turn()=0 turn()=0 of(0, 4)=0 of(0, 2)=40");
    }

    private static void sees() {
        int[] due = {0, 1, 3, 7, 7, 7};
        for (int sees = 0; sees < due.length; sees++) {
            RUNS.says("at SEES of them, or at all, if they are fewer (of several the lesser numbers first)")
                .go("child(4, 8) child(4, 8) child(4, 8) yard{sees " + sees + "} turn()=" + due[sees]);
        }
        RUNS.says("or at all, if they are fewer")
            .go("child(4, 8) yard{sees 99} turn()=1 child(4, 8) child(4, 8) child(4, 8) child(4, 8) child(4, 8)")
            .go("child(4, 8) turn()=127 yard{sees 7} turn()=127 yard{sees 6} turn()=63 of(6, 2)=24 of(6, 4)=2");
        RUNS.says("SHE looks at: a look at one who WOBBLES little is a look too")
            .go("child(0, 8) child(4, 8) set(0, 0, 20) yard{sees 1} turn()=0 of(0, 2)=28 of(1, 2)=24")
            .anew("child(0, 8) child(4, 8) set(0, 0, 20) yard{sees 2} turn()=2")
            .anew("child(0, 8) child(4, 8) set(0, 0, 16) yard{sees 1} turn()=0")
            .anew("child(0, 8) child(4, 8) set(0, 0, 15) yard{sees 1} turn()=2")
            .anew("child(4, 8) child(0, 8) set(1, 0, 16) yard{sees 1} turn()=1");
        RUNS.says("Of the others: who touches THE WALL in this TURN takes no look")
            .go("child(0, 8) child(4, 8) set(0, 0, 32) yard{sees 1} turn()=2 told(4)=1 turn()=2")
            .anew("child(0, 8) child(4, 8) set(0, 0, 31) yard{sees 1} turn()=0 told(4)=0");
    }

    private static void most() {
        int[] due = {0, 4, 6, 7, 7};
        for (int sees = 0; sees < due.length; sees++) {
            RUNS.says("SHE looks at those who are AT most")
                .go("child(4, 8) child(4, 8) child(4, 8) set(1, 0, 1) set(2, 0, 2) yard{sees " + sees + "} turn()=" + due[sees]);
        }
        RUNS.says("AT most: by how far they have come in this TURN")
            .go("child(0, 8) child(4, 8) set(0, 0, 15) yard{sees 1;far 99} of(0, 2)=15 of(1, 2)=0 turn()=2 of(0, 2)=23");
    }

    private static void sharp() {
        RUNS.says("whoever of these WOBBLES more than SHARP")
            .go("child(4, 8) yard{sharp 10} of(0, 8)=11 turn()=1 yard{sharp 11;far 99} turn()=0 of(0, 2)=24")
            .go("yard{sharp 12;far 99} turn()=0 of(0, 2)=48 yard{sharp 10;far 99} turn()=1 of(0, 2)=0");
        RUNS.says("WOBBLES 0 is not more than SHARP 0, 1 is")
            .go("child(0, 0) yard{sharp 0} of(0, 8)=0 turn()=0 yard{sharp 0;wobble 1 c=0} of(0, 8)=1 turn()=1")
            .go("set(0, 1, 3) turn()=0 of(0, 4)=1");
    }

    private static void aheadOfTheTurn() {
        RUNS.says("(by how all was ahead of the TURN): AT")
            .go("child(0, 8) set(0, 0, 1) yard{wobble 9 a=1} turn()=0 of(0, 2)=9 turn()=1 of(0, 2)=0")
            .go("set(0, 0, 2) turn()=0 of(0, 2)=10 turn()=0 of(0, 2)=18");
        RUNS.says("(by how all was ahead of the TURN): TURN, her COUNT")
            .go("child(0, 8) yard{wobble 9 t=1} turn()=0 turn()=1 turn()=0")
            .anew("child(0, 8) counts(1, 4) yard{wobble 9 b=4} turn()=0 of(0, 2)=8 turn()=1 turn()=0");
        RUNS.says("all who are not at THE WALL go on by GOES (by how all is ahead of it)")
            .go("child(6, 0) row(0, 0, 1) row(0, 1, 2) counts(0, 2) counts(1, 3) turn()=0 of(0, 2)=2 turn()=0 of(0, 2)=8");
    }

    private static void sentBack() {
        RUNS.says("is sent back: AT is 0, SENT 1 more. TURN is 1 more")
            .go("child(4, 8) child(0, 8) set(0, 0, 5) turn()=1 of(0, 2)=0 of(0, 4)=1 of(1, 4)=0 of(1, 2)=8 told(0)=1")
            .go("turn()=1 of(0, 4)=2 told(0)=2 of(0, 3)=1 of(0, 5)=0 set(0, 0, 16) turn()=0 of(0, 4)=2 told(0)=3 told(4)=1");
    }

    private static void turn() {
        RUNS.says("turn: who was sent back, as bits: in this TURN alone")
            .go("child(4, 8) child(4, 8) turn()=3 turn()=3 set(0, 1, 9) turn()=2 of(0, 4)=2 set(1, 1, 8) turn()=0 of(1, 4)=3")
            .go("of(0, 2)=0 of(1, 2)=0 of(0, 3)=9 of(1, 3)=8");
        RUNS.says("turn: who was sent back, as bits")
            .go("turn()=0 told(0)=1 child(4, 8) child(0, 8) child(4, 8) turn()=5 told(0)=2 child(0, 8) child(0, 8)")
            .go("child(0, 8) child(4, 8) turn()=69 told(0)=3");
        // No object is used for so many calls: but this is the only way to see where TURN ends.
        WhileSheLooks x = Yards.with("", 4, 8, 0, 8);
        for (int i = 0; i < 9998; i++) {
            x.turn();
        }
        x.set(1, 0, 0);
        DUE.is("TURN", x.told(0), 9998);
        DUE.is("the last TURN goes", x.turn(), 1);
        DUE.is("TURN is 9999", x.told(0), 9999);
        DUE.is("SENT (9999 at most)", x.of(0, 4), 9999);
        DUE.is("STATE: TURN is 9999", x.turn(), -3);
        DUE.is("TURN as it was", x.told(0), 9999);
        DUE.is("AT as it was", x.of(1, 2), 8);
        DUE.is("SENT as it was", x.of(0, 4), 9999);
        DUE.is("TURNS also beyond 9999", x.on(4, 11), 40);
        DUE.is("SENT also beyond 9999", x.on(1, 1), 1);
        DUE.is("since() beyond 9999", x.since(), 15);
        DUE.is("odds() beyond 9999", x.odds(20, 0), 0);
        DUE.is("undo() has none", x.undo(), -3);
    }

    private static void onEdges() {
        RUNS.says("ON n TURNS (0 .. 40)")
            .go("child(0, 8) child(4, 8) on(MIN, 0)=BAD on(-1, 0)=BAD on(0, 0)=0 on(40, 0)=1 on(41, 0)=BAD on(MAX, 0)=BAD")
            .go("on(-1, 1)=BAD on(0, 1)=0 on(40, 1)=2 on(41, 1)=BAD on(-1, 11)=BAD on(41, 11)=BAD");
        RUNS.says("on: what 0 how many, 1 who was sent back, 10 and c AT")
            .go("on(1, 10)=NONE child(0, 8) on(1, MIN)=NONE on(1, -1)=NONE on(1, 0)=0 on(1, 1)=0 on(1, 2)=NONE")
            .go("on(1, 9)=NONE on(1, 10)=8 on(1, 11)=NONE child(3, 8) on(1, 11)=6 on(1, 12)=NONE on(1, MAX)=NONE")
            .go("child(0, 8) child(0, 8) child(0, 8) child(0, 8) child(0, 8) on(1, 16)=8 on(1, 17)=NONE");
        RUNS.says("ON 0 TURNS: as it is now")
            .go("child(0, 8) child(0, 8) set(1, 0, 39) turn()=0 on(0, 0)=1 on(0, 1)=0 on(0, 10)=8 on(0, 11)=40 on(1, 10)=16");
    }

    private static void onLate() {
        RUNS.says("how many are at THE WALL behind 39, 40")
            .go("child(3, 0)" + BY_TWO + "on(39, 10)=39 on(39, 0)=0 on(40, 10)=40 on(40, 0)=1 yard{far 41} on(40, 0)=0");
        RUNS.says("who is sent back in any of them (bits): in the last, in the first")
            .go("child(0, 8) child(0, 8) yard{far 99;wobble 9 t=3&c=1;wobble 9 t=0&c=0;sees 9}")
            .go("on(1, 1)=1 on(3, 1)=1 on(4, 1)=3 on(4, 11)=0 on(3, 11)=24 on(4, 10)=24 on(0, 1)=0");
    }

    private static void touches() {
        RUNS.says("TOUCHES of one: behind how many TURNS it is at THE WALL")
            .go("child(0, 8) touches(MIN)=NONE touches(-1)=NONE touches(0)=5 touches(1)=NONE touches(MAX)=NONE")
            .go("set(0, 0, 31) touches(0)=2 set(0, 0, 32) touches(0)=1 set(0, 0, 39) touches(0)=1 turn()=0 touches(0)=0")
            .go("set(0, 0, 39) touches(0)=1 set(0, 1, 9) touches(0)=NEVER yard{far 39} touches(0)=1");
    }

    private static void touchesLate() {
        RUNS.says("how many TURNS (0 .. 60; -5: not by then)")
            .go("child(3, 0)" + BY_TWO + "yard{far 59} touches(0)=59 yard{far 60} touches(0)=60 yard{far 61} touches(0)=NEVER")
            .go("set(0, 0, 1) touches(0)=60 set(0, 0, 0) turn()=0 touches(0)=60 told(0)=1");
    }

    private static void first() {
        RUNS.says("FIRST: who of those who are not at THE WALL now has the fewest TOUCHES (of several the first)")
            .go("first()=NEVER child(0, 8) first()=0 child(0, 8) first()=0 set(1, 0, 7) first()=0 set(1, 0, 8) first()=1")
            .go("set(0, 0, 16) first()=0 set(1, 0, 16) first()=0 set(0, 0, 15) first()=1")
            .go("set(1, 0, 39) set(0, 0, 0) turn()=0 told(4)=2 first()=0 set(0, 0, 39) turn()=0 told(4)=3 first()=NEVER");
        RUNS.says("FIRST: the seventh, the only one who goes")
            .go("child(0, 8) child(0, 8) child(0, 8) child(0, 8) child(0, 8) child(0, 8) child(0, 8)")
            .go("set(0, 1, 9) set(1, 1, 9) set(2, 1, 9) set(3, 1, 9) set(4, 1, 9) set(5, 1, 9) first()=6")
            .go("set(6, 1, 9) first()=NEVER set(3, 1, 2) first()=3");
    }

    private static void firstLate() {
        RUNS.says("FIRST (-5: nobody): by 60 TURNS, not by 61")
            .go("child(3, 0)" + BY_TWO + "yard{far 60} first()=0 yard{far 61} first()=NEVER child(3, 0) set(1, 0, 1) first()=1");
    }

    private static void calls() {
        RUNS.says("at most 512 calls after it has been made");
        for (int i = 0; i < 511; i++) {
            RUNS.go("turn()=0");
        }
        RUNS.go("told(0)=511");
    }

    private static void risks() {
        RUNS.says("RISKS: those who are not at THE WALL, as bits, who WOBBLE more than SHARP now")
            .go("risks()=0 child(4, 8) yard{sharp 10} risks()=1 yard{sharp 11} risks()=0 yard{sharp 12} risks()=0")
            .go("child(0, 0) child(4, 8) yard{sharp 0;sees 0} risks()=5 set(0, 0, 39) turn()=0 told(4)=1 risks()=4")
            .go("child(4, 8) child(4, 8) child(4, 8) child(4, 8) risks()=124 set(0, 0, 0) risks()=125");
        RUNS.says("RISKS: now, not later")
            .go("child(0, 8) yard{wobble 9 t=1} risks()=0 turn()=0 risks()=1 turn()=1 risks()=0");
    }
}
