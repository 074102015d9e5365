/**
 * Promises 15 to 21: each sentence that names an edge, at the edge and on either side of it. A CHILD with 8 has
 * PACE 4; a SMALL one with 0 has PACE 1, and WOBBLES 3 at most, which is not more than SHARP of 3.
 */
public final class BestEdgesTest {
    private static final Due DUE = new Due("BestEdgesTest");
    private static final Runs RUNS = new Runs(DUE);
    private static final String BY_ONE = " counts(0, 1)=3 counts(1, 1)=3 counts(2, 1)=3 counts(3, 1)=3 ";
    private static final String BY_TWO = " counts(0, 2)=3 counts(1, 2)=3 counts(2, 2)=3 counts(3, 2)=3 ";

    public static void main(String[] args) {
        stands();
        standsLate();
        slow();
        slowEnds();
        order();
        orderEnds();
        look();
        lookEnds();
        needs();
        needsEnds();
        held();
        heldBetween();
        shield();
        shieldEnds();
        ofTheLast();
        DUE.end();
    }

    private static void ofTheLast() {
        String six = "child(3, 0) ".repeat(6);
        RUNS.says("of one: of the seventh too")
            .go(six + "child(0, 8)=6 stands(6)=1 stands(5)=0 stands(1)=0 needs(6, 1)=32 needs(6, 2)=24 needs(5, 1)=38")
            .go("held(6, 1)=0 shield(6, 5, 1)=0 shield(5, 6, 20)=0 set(6, 0, 39) stands(6)=2 stands(7)=NONE needs(7, 1)=NONE")
            .go("held(7, 1)=NONE shield(6, 7, 1)=-1001 set(6, 1, 9) stands(6)=2 needs(6, 8)=NEVER touches(6)=NEVER touches(5)=20");
    }

    private static void stands() {
        RUNS.says("STANDS of one: the EARLY by which TOUCHES of it are fewest (of several the greatest)")
            .go("stands(0)=NONE child(3, 0) stands(0)=0 set(0, 0, 39) stands(0)=2 counts(0, 9) stands(0)=8")
            .go("counts(0, 1) stands(0)=0 set(0, 1, 9) stands(0)=0 of(0, 3)=9 stands(1)=NONE stands(-1)=NONE")
            .go("set(0, 1, 0) turn()=0 told(4)=1 stands(0)=9 set(0, 1, 5) stands(0)=9");
        RUNS.says("STANDS: one who is AT FAR or more by a new YARD gets there whatever EARLY is")
            .go("child(0, 8) set(0, 0, 30) yard{far 31} stands(0)=2 yard{far 30} stands(0)=9");
    }

    private static void standsLate() {
        RUNS.says("STANDS (-5: by none): by 60 TURNS, not by 61")
            .go("child(3, 0)" + BY_ONE + "touches(0)=NEVER yard{far 60} stands(0)=0 yard{far 61} stands(0)=NEVER")
            .go("set(0, 0, 1) stands(0)=0 set(0, 0, 0) set(0, 1, 0) touches(0)=NEVER stands(0)=NEVER");
    }

    private static void slow() {
        RUNS.says("COUNT of n TURNS (1 .. 20)")
            .go("child(0, 8) slow(MIN, 0)=BAD slow(0, 0)=BAD slow(1, 0)=9 slow(20, 0)=1 slow(21, 0)=BAD slow(MAX, 1)=BAD")
            .go("slow(1, -1)=NONE slow(1, 2)=NONE slow(0, 2)=NONE slow(21, MIN)=NONE slow(1, MAX)=NONE slow(1, 1)=0");
        RUNS.says("fewest are at THE WALL behind n (of several the greatest)")
            .go("child(3, 0) yard{far 20} slow(20, 0)=1 slow(20, 1)=0 slow(19, 0)=2 slow(19, 1)=0 slow(10, 0)=2 slow(9, 0)=3")
            .go("slow(1, 0)=9 yard{far 9} slow(1, 0)=9 yard{far 8} slow(1, 0)=8 yard{far 7} slow(1, 0)=7");
    }

    private static void slowEnds() {
        RUNS.says("the count (1 .. 9): all are there by each")
            .go("child(3, 0) set(0, 1, 0) yard{far 1} slow(1, 0)=9 slow(1, 1)=1 slow(20, 0)=9 slow(20, 1)=1");
        RUNS.says("the count: of those that tie with some there the greatest")
            .go("child(3, 0) child(3, 0) set(0, 1, 0) yard{far 1} slow(1, 0)=1 slow(1, 1)=1 set(1, 1, 8) slow(1, 0)=8")
            .go("set(1, 1, 9) slow(1, 0)=9 slow(1, 1)=1");
        RUNS.says("COUNT: who is at THE WALL now counts too")
            .go("child(0, 8) child(3, 0) set(0, 0, 39) turn()=0 told(4)=1 slow(1, 1)=1 slow(1, 0)=9")
            .anew("slow(20, 0)=9 slow(20, 1)=0");
    }

    private static void order() {
        RUNS.says("ORDER of n TURNS (1 .. 20): how many; the k-th COUNT")
            .go("child(0, 8) order(1, MIN)=NONE order(1, -2)=NONE order(1, 4)=NONE order(0, 4)=NONE order(21, -2)=NONE")
            .go("order(MIN, 0)=BAD order(0, -1)=BAD order(0, 3)=BAD order(21, 3)=BAD order(21, -1)=BAD order(MAX, 0)=BAD")
            .go("counts(0, 1) counts(1, 2) counts(2, 3) counts(3, 4) order(1, -1)=0 order(1, 0)=1 order(1, 3)=4")
            .go("order(20, -1)=1 order(20, 0)=1 order(20, 1)=2 order(20, 2)=3 order(20, 3)=4");
        RUNS.says("ORDER: the seven there are fewer by it")
            .go("child(0, 8) child(0, 8) child(0, 8) child(0, 8) child(0, 8) child(0, 8) child(0, 8) yard{far 5}")
            .go("counts(0, 9) counts(1, 9) counts(2, 9) counts(3, 2) order(1, -1)=0 order(1, 0)=2 order(1, 3)=9")
            .go("order(2, -1)=7 order(2, 0)=9 order(2, 3)=2");
    }

    private static void orderEnds() {
        RUNS.says("of several the first as a row of the places that they have now")
            .go("child(0, 8) counts(0, 9) counts(1, 1) counts(2, 3) counts(3, 2) set(0, 0, 32)")
            .go("order(1, -1)=0 order(1, 0)=1 order(1, 1)=9 order(1, 2)=3 order(1, 3)=2")
            .go("set(0, 0, 31) order(1, -1)=0 order(1, 0)=1 order(1, 1)=9 set(0, 0, 7) order(1, 0)=9 order(1, 1)=1")
            .go("set(0, 0, 8) order(1, 0)=1 order(1, 1)=9");
        RUNS.says("ORDER of nobody, or of those who are there, is the row as it is")
            .go("counts(0, 9) counts(1, 1) counts(2, 3) order(20, -1)=0 order(20, 0)=9 order(20, 1)=1 order(20, 2)=3")
            .go("child(0, 8) set(0, 0, 39) turn()=0 order(20, -1)=1 order(20, 0)=9 order(20, 1)=1 order(20, 3)=3");
        RUNS.says("ORDER goes on from TURN: the last place comes ahead of the first")
            .go("child(0, 8) counts(0, 9) turn()=0 turn()=0 turn()=0 set(0, 0, 32) told(0)=3 counts(0, 1) counts(1, 2)")
            .go("order(1, -1)=0 order(1, 0)=1 order(1, 1)=3 order(1, 2)=3 order(1, 3)=2");
    }

    private static void look() {
        RUNS.says("LOOK of n TURNS (1 .. 20)")
            .go("child(4, 8) look(MIN)=BAD look(0)=BAD look(1)=0 look(2)=1 look(20)=1 look(21)=BAD look(MAX)=BAD");
        for (int n = 0; n <= 7; n++) {
            RUNS.says("the least SEES (0 .. 9) by which, were it that, as many are at THE WALL behind n as now")
                .go("child(4, 8) ".repeat(n) + "look(20)=" + n + " look(1)=0 yard{sees 0} look(20)=" + n + " told(3)=0");
        }
    }

    private static void lookEnds() {
        RUNS.says("LOOK (-5: by none)")
            .go("child(0, 8) look(4)=0 look(5)=NEVER look(20)=NEVER yard{sharp 1} look(4)=0 look(5)=1 look(20)=1")
            .go("yard{far 8} look(1)=NEVER yard{far 9;sharp 1} look(1)=0");
        RUNS.says("LOOK: as many as now: one is there now")
            .go("child(0, 8) child(4, 8) child(4, 8) set(0, 0, 39) turn()=6 told(4)=1 look(1)=0 look(2)=2 look(20)=2")
            .go("set(1, 1, 9) look(20)=1 set(2, 1, 9) look(20)=0");
        RUNS.says("LOOK: one who calmly is ahead takes the look")
            .go("child(0, 8) child(4, 8) set(0, 0, 30) yard{far 60} look(3)=1 yard{far 48} look(2)=2 yard{far 49} look(2)=0");
    }

    private static void needs() {
        RUNS.says("NEEDS of one and n TURNS (1 .. 8)")
            .go("needs(0, 1)=NONE child(3, 0)" + BY_TWO + "needs(0, MIN)=BAD needs(0, 0)=BAD needs(0, 1)=39 needs(0, 8)=32")
            .go("needs(0, 9)=BAD needs(0, MAX)=BAD needs(1, 0)=NONE needs(-1, 9)=NONE needs(1, 1)=NONE");
        RUNS.says("the least AT (0 .. FAR less 1)")
            .go("child(3, 0)" + BY_TWO + "yard{far 7} needs(0, 7)=0 needs(0, 8)=0 yard{far 8} needs(0, 8)=0 needs(0, 7)=1")
            .go("yard{far 9} needs(0, 8)=1 needs(0, 1)=8 yard{far 0} needs(0, 1)=0 needs(0, 8)=0")
            .go("yard{far 99} needs(0, 1)=98 needs(0, 8)=91");
    }

    private static void needsEnds() {
        RUNS.says("NEEDS (-5: by none)")
            .go("child(3, 0) needs(0, 1)=38 set(0, 1, 2) needs(0, 1)=39 set(0, 1, 3) needs(0, 1)=NEVER needs(0, 8)=NEVER set(0, 0, 39)")
            .go("needs(0, 8)=NEVER counts(3, 4)=3 needs(0, 3)=NEVER needs(0, 4)=39");
        RUNS.says("were it there now (not at THE WALL)")
            .go("child(0, 8) set(0, 0, 39) turn()=0 told(4)=1 needs(0, 1)=32 needs(0, 2)=24 needs(0, 5)=0 told(4)=1 of(0, 2)=40")
            .go("set(0, 1, 9) needs(0, 8)=NEVER");
        RUNS.says("NEEDS: one who is at THE WALL takes no look there, one who stands AT as much does")
            .go("child(0, 8) child(4, 8) set(0, 0, 39) turn()=2 set(0, 1, 9) yard{far 60;sees 1} of(0, 2)=40 of(0, 5)=1")
            .go("needs(1, 1)=36 needs(1, 2)=36 set(0, 0, 40) of(0, 5)=0 needs(1, 1)=36 needs(1, 2)=12");
        RUNS.says("NEEDS: the others go on too")
            .go("child(4, 8) child(0, 8) set(1, 0, 39) set(1, 1, 9) yard{sees 1} needs(0, 2)=0 set(1, 0, 0) needs(0, 2)=16");
    }

    private static void held() {
        RUNS.says("HELD of one and n TURNS (1 .. 20)")
            .go("held(0, 1)=NONE child(4, 8) set(0, 0, 10) held(0, MIN)=BAD held(0, 0)=BAD held(0, 1)=1 held(0, 20)=20")
            .go("held(0, 21)=BAD held(0, MAX)=BAD held(1, 0)=NONE held(-1, 21)=NONE held(1, 1)=NONE");
        RUNS.says("the least k (0 .. n)")
            .go("child(4, 8) held(0, 1)=0 held(0, 20)=0 set(0, 0, 1) held(0, 1)=1 held(0, 2)=2 held(0, 19)=19 set(0, 0, 15)")
            .go("held(0, 1)=1 held(0, 20)=20 set(0, 0, 16) held(0, 1)=0 held(0, 20)=0 turn()=0 told(4)=1 held(0, 20)=0")
            .go("child(0, 8) held(1, 1)=0 held(1, 20)=0 set(1, 1, 9) held(1, 20)=0");
    }

    private static void heldBetween() {
        // It WOBBLES more than SHARP in TURN 1 alone: held in the first two it keeps what it has and goes on then.
        RUNS.says("if it GOES 0 and WOBBLES 0 in the first k of n TURNS")
            .go("child(0, 8) set(0, 0, 3) yard{far 99;wobble 9 t=1} held(0, 1)=0 held(0, 2)=2 held(0, 3)=2 held(0, 4)=2")
            .go("on(4, 10)=16 of(0, 2)=3");
        RUNS.says("WOBBLES 0 while it is held, RECKLESS or not, whatever SHARP is")
            .go("child(4, 8) set(0, 0, 9) yard{sharp 0} held(0, 3)=3 set(0, 1, 9) risks()=1 held(0, 1)=1 of(0, 2)=9");
        RUNS.says("HELD: one held does not stand in front, so another one is looked at")
            .go("child(0, 8) child(4, 8) set(0, 0, 17) yard{sees 1;far 60} on(1, 11)=24 held(1, 1)=0 held(0, 1)=0 on(2, 11)=0");
    }

    private static void shield() {
        RUNS.says("SHIELD of one by another one, n TURNS (1 .. 20)")
            .go("child(4, 8) child(0, 8) shield(0, 1, MIN)=-1002 shield(0, 1, 0)=-1002 shield(0, 1, 21)=-1002")
            .go("shield(0, 1, MAX)=-1002 set(1, 0, 16) yard{sees 1} shield(0, 1, 1)=0 set(1, 0, 17) shield(0, 1, 1)=24")
            .go("shield(0, 1, 20)=40 set(1, 0, 31) shield(0, 1, 2)=40 shield(0, 1, 20)=40 told(4)=0");
        RUNS.says("-1001: NONE; -1002: BAD: one is both, n")
            .go("child(0, 8) child(0, 8) shield(-1, 0, 1)=-1001 shield(0, -1, 1)=-1001 shield(2, 0, 1)=-1001")
            .go("shield(0, 2, 1)=-1001 shield(2, 2, 1)=-1001 shield(-1, -1, 1)=-1001 shield(0, 2, 0)=-1001")
            .go("shield(MIN, 0, 1)=-1001 shield(0, MAX, 1)=-1001 shield(2, 1, 21)=-1001 shield(0, 0, 1)=-1002")
            .go("shield(1, 1, 20)=-1002 shield(1, 1, 0)=-1002 shield(0, 1, 1)=0 shield(1, 0, 20)=0");
    }

    private static void shieldEnds() {
        RUNS.says("SHIELD (may be below 0)")
            .go("child(0, 8) child(0, 8) child(4, 8) yard{sees 1;wobble 9 c=0} set(1, 0, 30) on(1, 10)=8 on(2, 10)=0")
            .go("shield(0, 1, 1)=0 shield(0, 1, 2)=-16 shield(2, 1, 1)=24");
        RUNS.says("SHIELD by one who is at THE WALL now is 0")
            .go("child(4, 8) child(0, 8) set(1, 0, 39) yard{sees 1} turn()=1 told(4)=2 shield(0, 1, 1)=0 shield(0, 1, 20)=0")
            .go("set(1, 0, 31) told(4)=0 shield(0, 1, 1)=24");
        RUNS.says("SHIELD of one who is at THE WALL is 0")
            .go("child(4, 8) child(0, 8) set(0, 0, 16) yard{sees 1} turn()=0 told(4)=1 shield(0, 1, 1)=0 shield(0, 1, 20)=0");
    }
}
