/** Promises 1 to 6: each sentence that names an edge, at the edge and on either side of it. */
public final class ChildrenEdgesTest {
    private static final Due DUE = new Due("ChildrenEdgesTest");
    private static final Runs RUNS = new Runs(DUE);

    public static void main(String[] args) {
        howMany();
        kindsAndNumbers();
        atFirst();
        counts();
        early();
        at();
        rows();
        paces();
        goes();
        wobblesOfGoing();
        wobblesInThemselves();
        wobblesOfKinds();
        of();
        DUE.end();
    }

    private static void howMany() {
        RUNS.says("CHILDREN 0 .. 6, as they come")
            .go("of(0, 0)=NONE child(0, 0)=0 of(0, 0)=0 of(1, 0)=NONE child(1, 0)=1 of(1, 0)=1 of(2, 0)=NONE")
            .go("child(2, 0)=2 child(3, 0)=3 child(4, 0)=4 child(5, 0)=5 of(6, 0)=NONE count(0)=6")
            .go("child(6, 0)=6 of(6, 0)=6 of(7, 0)=NONE count(0)=7 child(0, 0)=FULL count(0)=7 of(6, 0)=6");
    }

    private static void kindsAndNumbers() {
        RUNS.says("0 CHILD; 1 QUICK, 2 STEADY, 3 SMALL; 4 RECKLESS; 5 CAREFUL; 6 TOLD")
            .go("child(MIN, 0)=NONE child(-1, 0)=NONE child(0, 0)=0 child(6, 0)=1 child(7, 0)=NONE")
            .go("child(MAX, 0)=NONE count(0)=2 of(0, 0)=0 of(1, 0)=6");
        RUNS.says("with a number v (0 .. 9)")
            .go("child(0, MIN)=BAD child(0, -1)=BAD child(0, 0)=0 child(0, 9)=1 child(0, 10)=BAD")
            .go("child(0, MAX)=BAD count(0)=2 of(0, 1)=0 of(1, 1)=9");
    }

    private static void atFirst() {
        RUNS.says("Nobody, no YARD, COUNTS of 3")
            .go("count(0)=0 count(1)=0 told(1)=40 told(2)=3 told(3)=9 told(4)=0")
            .go("told(10)=3 told(11)=3 told(12)=3 told(13)=3");
        RUNS.says("TURN (0 at first)").go("told(0)=0 turn()=0 told(0)=1");
        RUNS.says("AT 0 at first, EARLY 1, SENT 0, not at THE WALL: one who comes late too")
            .go("yard{far 20} child(4, 8)=0 turn()=0 told(4)=1 child(4, 8)=1 of(1, 2)=0 of(1, 3)=1")
            .go("of(1, 4)=0 of(1, 5)=0 told(4)=1 yard{far 40} turn()=2 of(1, 4)=1")
            .go("child(6, 9)=2 of(2, 2)=0 of(2, 3)=1 of(2, 4)=0 of(2, 5)=0 row(2, 0, 0)=0 row(2, 3, 0)=0");
    }

    private static void counts() {
        RUNS.says("four COUNTS (1 .. 9; 3 each, at first)")
            .go("counts(0, MIN)=BAD counts(0, 0)=BAD told(10)=3 counts(0, 1)=3 told(10)=1")
            .go("counts(3, 10)=BAD counts(3, MAX)=BAD told(13)=3 counts(3, 9)=3 told(13)=9")
            .go("counts(-1, 5)=NONE counts(4, 5)=NONE counts(MIN, 5)=NONE counts(MAX, 5)=NONE")
            .go("told(10)=1 told(11)=3 told(12)=3 told(13)=9 counts(0, 9)=1 counts(3, 1)=9");
        RUNS.says("she counts COUNTS at TURN modulo 4")
            .go("yard{far 99} child(0, 0) counts(0, 2) counts(1, 3) counts(2, 4) counts(3, 5)")
            .go("of(0, 7)=2 turn()=0 of(0, 7)=4 turn()=0 of(0, 7)=6 turn()=0 of(0, 7)=8 turn()=0")
            .go("of(0, 7)=2 turn()=0 of(0, 7)=4 turn()=0 of(0, 7)=6 turn()=0 of(0, 7)=8 turn()=0 of(0, 7)=2")
            .go("of(0, 2)=40");
    }

    private static void early() {
        RUNS.says("set: EARLY (0 .. 9) becomes n: what it was")
            .go("child(0, 0) set(0, 1, MIN)=BAD set(0, 1, -1)=BAD of(0, 3)=1 set(0, 1, 0)=1 of(0, 3)=0")
            .go("set(0, 1, 10)=BAD set(0, 1, MAX)=BAD of(0, 3)=0 set(0, 1, 9)=0 of(0, 3)=9 set(0, 1, 9)=9");
        RUNS.says("set: what 0 AT, 1 EARLY, of a CHILD")
            .go("child(0, 0) set(0, -1, 1)=NONE set(0, 2, 1)=NONE set(0, MAX, 1)=NONE set(0, MIN, 1)=NONE")
            .go("set(1, 0, 1)=NONE set(1, 1, 1)=NONE set(-1, 0, 1)=NONE of(0, 2)=0 of(0, 3)=1")
            .go("set(0, 0, 1)=0 set(0, 1, 2)=1 of(0, 2)=1 of(0, 3)=2");
    }

    private static void at() {
        RUNS.says("set: AT (0 .. FAR less 1)")
            .go("child(0, 0) set(0, 0, MIN)=BAD set(0, 0, -1)=BAD set(0, 0, 40)=BAD set(0, 0, MAX)=BAD")
            .go("of(0, 2)=0 set(0, 0, 39)=0 of(0, 2)=39 set(0, 0, 0)=39 of(0, 2)=0")
            .go("yard{far 0} set(0, 0, 1)=BAD set(0, 0, -1)=BAD set(0, 0, 0)=0")
            .go("yard{far 2} set(0, 0, 2)=BAD set(0, 0, 1)=0 set(0, 0, 0)=1")
            .go("yard{far 99} set(0, 0, 99)=BAD set(0, 0, 98)=0 of(0, 2)=98");
        RUNS.says("set: it is not at THE WALL then")
            .go("child(0, 8) child(0, 8) set(0, 0, 39) set(1, 0, 39) turn()=0 told(4)=3 of(0, 2)=40")
            .go("set(0, 0, 40)=BAD set(0, 0, -1)=BAD of(0, 5)=1 set(0, 1, 3)=1 of(0, 5)=1 told(4)=3")
            .go("set(0, 0, 39)=40 of(0, 5)=0 told(4)=2 of(0, 2)=39 set(1, 0, 0)=40 told(4)=0");
    }

    private static void rows() {
        RUNS.says("its ROW (four numbers 0 .. 9; 0 at first) at TURN modulo 4 more")
            .go("child(6, 3) row(0, 0, -1)=BAD row(0, 0, MIN)=BAD row(0, 0, 0)=0 row(0, 3, 10)=BAD")
            .go("row(0, 3, MAX)=BAD row(0, 3, 9)=0 row(0, 2, 1)=0 row(0, 1, 0)=0")
            .go("of(0, 6)=1 turn()=0 of(0, 6)=1 turn()=0 of(0, 6)=2 turn()=0 of(0, 6)=10 turn()=0 of(0, 6)=1")
            .go("row(0, 3, 4)=9 row(0, 2, 9)=1 row(0, 1, 9)=0 row(0, 0, 9)=0 of(0, 6)=10");
        RUNS.says("TOLD: its ROW: of each its own, whoever comes then");
        for (int c = 0; c < 7; c++) {
            RUNS.go("child(6, 0)=" + c);
            for (int part = 0; part < 4; part++) {
                RUNS.go("row(" + c + ", " + part + ", " + (c + part) % 10 + ")=0");
            }
        }
        RUNS.go("image()=7 on(1, 16)=14 on(2, 16)=30 on(3, 16)=40 on(1, 10)=2 on(2, 13)=18");
        for (int c = 0; c < 7; c++) {
            for (int part = 0; part < 4; part++) {
                RUNS.go("row(" + c + ", " + part + ", 9)=" + (c + part) % 10);
            }
        }
        RUNS.go("undo()=7");
        for (int c = 0; c < 7; c++) {
            for (int part = 0; part < 4; part++) {
                RUNS.go("row(" + c + ", " + part + ", 0)=" + (c + part) % 10);
            }
        }
        RUNS.says("row: part 0 .. 3")
            .go("child(6, 0) row(0, MIN, 1)=NONE row(0, -1, 1)=NONE row(0, 4, 1)=NONE row(0, MAX, 1)=NONE")
            .go("row(0, 0, 0)=0 row(0, 1, 0)=0 row(0, 2, 0)=0 row(0, 3, 0)=0 row(1, 0, 1)=NONE row(-1, 3, 1)=NONE");
        RUNS.says("row: STATE: another KIND")
            .go("child(0, 0) child(1, 0) child(2, 0) child(3, 0) child(4, 0) child(5, 0) child(6, 0)")
            .go("row(0, 0, 1)=STATE row(1, 0, 1)=STATE row(2, 0, 1)=STATE row(3, 0, 1)=STATE")
            .go("row(4, 0, 1)=STATE row(5, 0, 1)=STATE row(6, 0, 1)=0 row(3, 0, 0)=STATE of(3, 6)=1");
    }

    private static void paces() {
        RUNS.says("CHILD: 2 and v by 3 (cut)")
            .go("child(0, 0) child(0, 2) child(0, 3) child(0, 5) child(0, 6) child(0, 8) child(0, 9)")
            .go("of(0, 6)=2 of(1, 6)=2 of(2, 6)=3 of(3, 6)=3 of(4, 6)=4 of(5, 6)=4 of(6, 6)=5");
        RUNS.says("SMALL: 1 and v by 4 (cut)")
            .go("child(3, 0) child(3, 3) child(3, 4) child(3, 7) child(3, 8) child(3, 9)")
            .go("of(0, 6)=1 of(1, 6)=1 of(2, 6)=2 of(3, 6)=2 of(4, 6)=3 of(5, 6)=3");
        RUNS.says("QUICK: as CHILD, and 2. RECKLESS: twice what QUICK is. CAREFUL: as STEADY, but 1 less")
            .go("child(1, 0) child(1, 9) child(4, 0) child(4, 9) child(5, 0) child(5, 9) child(2, 9)")
            .go("of(0, 6)=4 of(1, 6)=7 of(2, 6)=8 of(3, 6)=14 of(4, 6)=1 of(5, 6)=4 of(6, 6)=5");
    }

    private static void goes() {
        RUNS.says("GOES: PACE times what her COUNT then is more than EARLY (0, if it is not more)")
            .go("child(0, 0) of(0, 7)=4 set(0, 1, 2) of(0, 7)=2 set(0, 1, 3) of(0, 7)=0 set(0, 1, 4) of(0, 7)=0")
            .go("set(0, 1, 9) of(0, 7)=0 set(0, 1, 0) of(0, 7)=6 counts(0, 1) of(0, 7)=2")
            .go("set(0, 1, 1) of(0, 7)=0 counts(0, 9) of(0, 7)=16 set(0, 1, 0) of(0, 7)=18")
            .go("set(0, 1, 8) of(0, 7)=2 set(0, 1, 9) of(0, 7)=0");
        RUNS.says("her COUNT then is that of this TURN alone")
            .go("child(0, 0) counts(1, 9) counts(2, 1) of(0, 7)=4 turn()=0 of(0, 7)=16 turn()=0 of(0, 7)=0");
    }

    private static void wobblesOfGoing() {
        RUNS.says("CHILD: 0, if it GOES 0, else PACE and SHAKE, less twice EARLY")
            .go("child(0, 0) yard{wobble 50 c=0} of(0, 8)=50 set(0, 1, 0) of(0, 8)=52 set(0, 1, 2) of(0, 8)=48")
            .go("set(0, 1, 3) of(0, 8)=0 set(0, 1, 4) of(0, 8)=0 counts(0, 5) of(0, 8)=44 counts(0, 4) of(0, 8)=0");
        RUNS.says("RECKLESS: as QUICK, and 1: who GOES 0 too")
            .go("child(4, 0) yard{wobble 50 c=0} set(0, 1, 2) of(0, 8)=55 set(0, 1, 3) of(0, 8)=1")
            .go("set(0, 1, 9) of(0, 8)=1");
    }

    /** With EARLY 1 and v 0 a CHILD WOBBLES SHAKE, a SMALL or CAREFUL one 1 less, a RECKLESS one 7 more. */
    private static void wobblesInThemselves() {
        RUNS.says("WOBBLES (each of these 0 at least, in itself): CHILD")
            .go("child(0, 0) yard{still 2 c=0} of(0, 8)=0 yard{still 1 c=0} of(0, 8)=0 yard{still 0 c=0} of(0, 8)=0")
            .go("yard{wobble 1 c=0} of(0, 8)=1 yard{wobble 2 c=0} of(0, 8)=2");
        RUNS.says("in itself: what QUICK WOBBLES is 0 ahead of RECKLESS's 1")
            .go("child(4, 0) yard{still 99 c=0} of(0, 8)=1 yard{still 7 c=0} of(0, 8)=1")
            .go("yard{still 6 c=0} of(0, 8)=1 yard{still 5 c=0} of(0, 8)=2 yard{still 0 c=0} of(0, 8)=7");
        RUNS.says("in itself: STEADY less v")
            .go("child(2, 2) yard{wobble 1 c=0} of(0, 8)=0 yard{wobble 2 c=0} of(0, 8)=0")
            .go("yard{wobble 3 c=0} of(0, 8)=1 yard{still 9 c=0} of(0, 8)=0");
    }

    private static void wobblesOfKinds() {
        RUNS.says("SMALL: as CHILD, 3 at most. TOLD: as SMALL")
            .go("child(3, 0) child(6, 0) yard{wobble 0 c<9} of(0, 8)=0 of(1, 8)=0")
            .go("yard{wobble 1 c<9} of(0, 8)=0 of(1, 8)=0 yard{wobble 3 c<9} of(0, 8)=2 of(1, 8)=2")
            .go("yard{wobble 4 c<9} of(0, 8)=3 of(1, 8)=3 yard{wobble 5 c<9} of(0, 8)=3 of(1, 8)=3")
            .go("row(1, 0, 9) of(1, 8)=3 yard{still 7 c<9} of(1, 8)=1 row(1, 0, 8)=9 of(1, 8)=0");
        RUNS.says("CAREFUL: as STEADY, but 0, if EARLY is 2 or more")
            .go("child(5, 0) yard{wobble 9 c=0} of(0, 8)=8 set(0, 1, 0) of(0, 8)=10 set(0, 1, 2) of(0, 8)=0")
            .go("counts(0, 9) of(0, 8)=0 set(0, 1, 3) of(0, 8)=0 set(0, 1, 1) of(0, 8)=8");
        RUNS.says("CAREFUL: less v, as STEADY")
            .go("child(5, 2) yard{wobble 2 c=0} of(0, 8)=0 yard{wobble 3 c=0} of(0, 8)=0")
            .go("yard{wobble 4 c=0} of(0, 8)=1");
        RUNS.says("QUICK: as CHILD")
            .go("child(1, 0) of(0, 8)=2 yard{still 1 c=0} of(0, 8)=1 yard{still 2 c=0} of(0, 8)=0")
            .go("yard{still 3 c=0} of(0, 8)=0");
    }

    private static void of() {
        RUNS.says("of: what 0 .. 8")
            .go("child(4, 8) of(0, MIN)=NONE of(0, -1)=NONE of(0, 0)=4 of(0, 8)=11 of(0, 9)=NONE of(0, MAX)=NONE")
            .go("of(-1, 0)=NONE of(1, 0)=NONE of(MIN, 8)=NONE of(MAX, 8)=NONE");
        RUNS.says("of: whether it is at THE WALL")
            .go("child(0, 8) child(0, 8) set(0, 0, 32) set(1, 0, 31) turn()=0 of(0, 5)=1 of(1, 5)=0 turn()=0 of(1, 5)=1");
    }
}
