/** Promises 29 to 39: each sentence that names an edge, at the edge and on either side of it. */
public final class RestEdgesTest {
    private static final Due DUE = new Due("RestEdgesTest");
    private static final Runs RUNS = new Runs(DUE);
    private static final String SEVEN =
        "child(0, 0)=0 child(1, 1)=1 child(2, 2)=2 child(3, 3)=3 child(4, 4)=4 child(5, 5)=5 child(6, 6)=6 ";

    public static void main(String[] args) {
        judgeNobody();
        judgeWhere();
        judgeWhat();
        judgeSeven();
        image();
        imageWhat();
        imageYard();
        imageText();
        acts();
        actsWrap();
        trace();
        taken();
        count();
        tape();
        tapeAnew();
        itemPlaces();
        itemBits();
        read();
        shift();
        shiftOver();
        shiftPlaces();
        DUE.end();
    }

    private static void judgeNobody() {
        RUNS.says("JUDGED: -5: there is none to look at")
            .go("judge(0, 0)=NEVER judge(0, -1)=NEVER judge(5, MAX)=NEVER tape(0, 1, 0)=1 judge(0, 0)=NEVER judge(0, 9)=NEVER")
            .go("judge(-1, 0)=NONE judge(6, 0)=NONE judge(MIN, 0)=NONE judge(MAX, 0)=NONE tape(1, 2, 3)=1 judge(1, 0)=CAST");
        RUNS.says("judge: CAST: it is no row of shorts")
            .go("child(0, 0) tape(0, 0, 2)=1 tape(1, 1, 2)=1 tape(2, 2, 2)=1 tape(3, 3, 2)=1 tape(4, 4, 2)=1")
            .go("judge(0, 0)=CAST judge(1, 0)=NEVER judge(2, 0)=CAST judge(3, 0)=CAST judge(4, 0)=CAST judge(5, 0)=100")
            .go("judge(0, -1)=CAST judge(0, 2)=CAST judge(6, -1)=NONE");
    }

    private static void judgeWhere() {
        RUNS.says("100 and how many were looked at, if the row ends ahead of that (or the place is below 0)")
            .go("child(0, 0) child(0, 0) child(0, 0) tape(0, 1, 5)=1 judge(0, MIN)=100 judge(0, -1)=100 judge(0, 0)=NEVER")
            .go("judge(0, 2)=NEVER judge(0, 3)=102 judge(0, 4)=101 judge(0, 5)=100 judge(0, 6)=100 judge(0, MAX)=100")
            .go("tape(0, 1, 0)=1 judge(0, 0)=100 tape(0, 1, 3)=1 judge(0, 0)=NEVER tape(0, 1, 2)=1 judge(0, 0)=102");
        RUNS.says("(or the TAPE holds nothing)")
            .go("child(0, 0) judge(0, 0)=100 judge(0, 5)=100 judge(0, -1)=100 tape(0, 1, 1)=1 judge(0, 0)=NEVER")
            .go("tape(0, -1, 0)=1 judge(0, 0)=100");
    }

    private static void judgeWhat() {
        RUNS.says("JUDGED: the first that is otherwise")
            .go("child(0, 0) child(0, 0) child(0, 0) set(0, 0, 1) set(1, 0, 2) set(2, 0, 3) tape(0, 1, 5)=1 judge(0, 0)=0")
            .go("item(0, 0, 1)=1 judge(0, 0)=1 item(0, 1, 2)=1 judge(0, 0)=2 item(0, 2, 3)=1 judge(0, 0)=NEVER judge(0, 1)=0")
            .go("item(0, 4, 1)=1 judge(0, 4)=101 item(0, 3, 1)=1 judge(0, 3)=1 item(0, 4, 2)=1 judge(0, 3)=102");
        RUNS.says("by a row of shorts: what is kept of an item")
            .go("child(0, 0) set(0, 0, 5) tape(0, 1, 1)=1 item(0, 0, 65541)=1 judge(0, 0)=NEVER item(0, 0, -5)=1 judge(0, 0)=0")
            .go("item(0, 0, 4)=1 judge(0, 0)=0 item(0, 0, 6)=1 judge(0, 0)=0 item(0, 0, 5)=1 judge(0, 0)=NEVER");
    }

    private static void judgeSeven() {
        RUNS.says("CHILD by CHILD: all seven")
            .go(SEVEN + "set(6, 0, 9) tape(5, 1, 60)=1 judge(5, 0)=6 judge(5, 53)=6 judge(5, 54)=106 judge(5, 55)=105")
            .go("judge(5, 59)=101 judge(5, 60)=100 item(5, 59, 9)=1 judge(5, 53)=NEVER judge(5, 52)=6");
    }

    private static void image() {
        RUNS.says("undo: STATE: there is none")
            .go("undo()=STATE child(0, 0) undo()=STATE count(0)=1 image()=1 undo()=1 undo()=1 child(0, 0)=1 undo()=1 count(0)=1");
        RUNS.says("THE IMAGE is taken: how many CHILDREN there are")
            .go("image()=0 " + SEVEN + "child(0, 0)=FULL undo()=0 count(0)=0 of(0, 0)=NONE " + SEVEN + "image()=7 undo()=7")
            .go("child(0, 0)=FULL of(6, 1)=6");
        RUNS.says("THE IMAGE: the newest one")
            .go("child(0, 0) image()=1 set(0, 0, 5) image()=1 set(0, 0, 7) undo()=1 of(0, 2)=5");
    }

    private static void imageWhat() {
        RUNS.says("THE IMAGE: CHILDREN with all that is theirs")
            .go("child(6, 1) child(4, 8) child(0, 8) row(0, 3, 9) set(2, 0, 32) set(0, 1, 0) turn()=2 image()=3")
            .go("set(0, 1, 5)=0 set(2, 0, 0)=40 set(0, 0, 8) row(0, 3, 1)=9 row(0, 0, 1)=0 turn() undo()=3")
            .go("of(0, 3)=0 of(2, 2)=40 of(2, 5)=1 told(4)=4 of(1, 4)=1 of(0, 2)=3 row(0, 3, 0)=9 row(0, 0, 0)=0");
        RUNS.says("THE IMAGE: her COUNTS, TURN")
            .go("counts(0, 9) counts(3, 1) turn()=0 image()=0 counts(0, 1)=9 counts(3, 9)=1 counts(1, 2) turn()=0 undo()=0")
            .go("told(0)=1 told(10)=9 told(11)=3 told(12)=3 told(13)=1");
        RUNS.says("THE IMAGE: SEEN")
            .go("child(0, 0) see(0, 0, 0)=1 see(0, 0, 1)=2 image()=1 see(-1, 0, 0)=0 since()=15 undo()=1 count(2)=2 since()=0")
            .go("see(0, 0, 0)=3 see(0, 0, 0)=4 see(0, 0, 0)=FULL undo()=1 count(2)=2 see(0, 0, 0)=3");
        RUNS.says("THE IMAGE: the BOOK")
            .go("child(0, 0) book(0, 0)=1 book(0, 1)=2 image()=1 book(-1, 0)=0 looked()=NEVER undo()=1 count(3)=2 looked()=1")
            .go("book(-1, 0)=0 book(0, 7)=1 book(0, 8)=2 book(0, 9)=3 looked()=0 undo()=1 count(3)=2 looked()=1");
    }

    private static void imageYard() {
        RUNS.says("THE IMAGE: which YARD holds")
            .go("image()=0 yard{far 11}=0 undo()=0 told(1)=40 count(1)=1 yard{far 12}=1 image()=0 yard{far 13}=2 undo()=0")
            .go("told(1)=12 yard{far 14}=3 yard{far 15}=4 yard{far 16}=5 undo()=0 told(1)=12 count(1)=6 yard{far 17}=FULL")
            .go("told(1)=12");
        RUNS.says("which YARD holds: one who is beyond FAR then stays as it was in THE IMAGE")
            .go("child(0, 8) set(0, 0, 30) image()=1 yard{far 20} turn()=0 of(0, 2)=20 undo()=1 of(0, 2)=30 told(4)=0 told(1)=40");
    }

    private static void imageText() {
        RUNS.says("All is as THE IMAGE: THE TEXT, TAPES and THE TRACE are none of it")
            .go("child(0, 8) image()=1 feed{far 2}=5 tape(0, 2, 1)=1 item(0, 0, 7)=1 act(0, 1, 3)=-5 undo()=1 count(4)=5")
            .go("read(0, 0)=7 trace(0)=11 trace(1)=10 count(5)=2 feed{1}=6 yard()=0 told(1)=21");
        RUNS.says("THE IMAGE is taken: by that nothing else changes")
            .go("child(6, 8) yard{far 50} feed{far 2}=5 tape(0, 2, 1)=1 item(0, 0, 7)=1 act(0, 1, 3)=5 row(0, 1, 4)=0")
            .go("set(0, 0, 9) see(0, 0, 9) book(0, 8) counts(2, 5) turn()=0 image()=1 count(4)=5 read(0, 0)=7 trace(0)=70")
            .go("count(1)=1 count(2)=1 count(3)=1 count(5)=5 told(0)=1 told(1)=50 told(12)=5 of(0, 2)=15 row(0, 1, 4)=4")
            .go("looked()=0 since()=0 feed{1}=6 yard()=1 told(1)=21");
    }

    private static void acts() {
        RUNS.says("An ACT (0 runs, 1 stands, 2 tells) of a CHILD. 0, and no TRACE then: no such CHILD, act")
            .go(SEVEN + "act(6, 2, 1)=9 count(5)=12 act(7, 0, 1)=0 count(5)=0 trace(0)=NONE act(6, 0, 1)=1 count(5)=2")
            .go("act(-1, 0, 1)=0 count(5)=0 act(0, 1, 9)=9 trace(0)=11 act(0, -1, 9)=0 trace(0)=NONE act(0, 2, 9)=18 count(5)=3")
            .go("act(0, 3, 9)=0 count(5)=0 trace(0)=NONE act(0, 0, 9)=9 count(5)=1 act(MIN, 0, 9)=0 count(5)=0 act(0, 0, 9)=9")
            .go("act(MAX, 0, 9)=0 count(5)=0 act(0, 0, 9)=9 act(0, MIN, 9)=0 count(5)=0 act(0, 0, 9)=9 act(0, MAX, 9)=0 count(5)=0");
        RUNS.says("the answer may be 0 with a TRACE too")
            .go("child(0, 0) act(0, 0, 0)=0 count(5)=1 trace(0)=10");
    }

    private static void actsWrap() {
        RUNS.says("ACTS of a CHILD with x (wrapping)")
            .go("child(0, 9) child(0, 9) child(2, 9) child(4, 9) child(5, 9) child(3, 0)")
            .go("act(1, 0, MAX)=MIN act(0, 1, MIN)=2147483639 act(1, 0, -1)=0 act(0, 2, 1073741833)=MIN")
            .go("act(0, 2, 1073741832)=2147483646 act(0, 2, -1073741815)=MIN act(0, 2, -1073741816)=2147483646")
            .go("act(2, 0, 715827882)=-2147483648 act(2, 0, 715827881)=2147483645 act(2, 0, -715827883)=-2147483647")
            .go("act(3, 0, -2147483648)=2147483645 act(3, 0, 2147483645)=MIN act(3, 0, 2147483644)=-2147483647")
            .go("act(5, 2, 1073741819)=-2147483642 act(5, 0, MAX)=-2147483644");
    }

    private static void trace() {
        RUNS.says("THE TRACE: the numbers of the bodies that ran in the latest act(), as they began")
            .go(SEVEN + "trace(0)=NONE count(5)=0 act(6, 2, 1)=9 trace(-1)=NONE trace(0)=40 trace(1)=12 trace(2)=70 trace(3)=11")
            .go("trace(4)=71 trace(5)=10 trace(6)=10 trace(7)=70 trace(8)=11 trace(9)=71 trace(10)=10 trace(11)=10")
            .go("trace(12)=NONE trace(19)=NONE trace(20)=NONE trace(MIN)=NONE trace(MAX)=NONE act(0, 0, 1)=1 trace(0)=10")
            .go("trace(1)=NONE count(5)=1");
    }

    private static void taken() {
        RUNS.says("taken for one of KIND k (0 .. 6)")
            .go(SEVEN + "taken(6, MIN)=BAD taken(6, -1)=BAD taken(6, 0)=6 taken(6, 6)=6 taken(6, 7)=BAD taken(6, MAX)=BAD")
            .go("taken(7, 0)=NOTHING taken(-1, 0)=NOTHING taken(7, 7)=BAD taken(-1, -1)=BAD taken(MIN, 6)=NOTHING taken(MAX, 0)=NOTHING");
        RUNS.says("or one under that: its KIND. CAST")
            .go(SEVEN + "taken(4, 0)=4 taken(4, 1)=4 taken(4, 2)=CAST taken(4, 3)=CAST taken(4, 4)=4 taken(4, 5)=CAST taken(4, 6)=CAST")
            .go("taken(5, 1)=CAST taken(5, 2)=5 taken(5, 3)=CAST taken(5, 5)=5 taken(6, 1)=CAST taken(6, 2)=CAST taken(6, 3)=6")
            .go("taken(0, 0)=0 taken(0, 1)=CAST taken(1, 4)=CAST taken(2, 5)=CAST taken(3, 6)=CAST taken(1, 1)=1 taken(1, 0)=1 taken(3, 3)=3");
    }

    private static void count() {
        RUNS.says("count: what 0 .. 5. BAD")
            .go("count(MIN)=BAD count(-1)=BAD count(0)=0 count(1)=0 count(2)=0 count(3)=0 count(4)=0 count(5)=0 count(6)=BAD count(MAX)=BAD")
            .go("child(0, 0) yard{far 1} see(0, 0, 0) see(0, 0, 0) book(0, 0) book(0, 0) book(0, 0) feed{fars} act(0, 2, 1)")
            .go("count(0)=1 count(1)=1 count(2)=2 count(3)=3 count(4)=4 count(5)=3");
    }

    private static void tape() {
        RUNS.says("a row of n (0 .. 60) of a sort, all 0")
            .go("tape(0, 0, MIN)=SIZE tape(0, 0, -1)=SIZE item(0, 0, 1)=NOTHING tape(0, 0, 0)=1 item(0, 0, 1)=PLACE")
            .go("tape(0, 0, 60)=1 item(0, 59, 1)=1 item(0, 60, 1)=PLACE tape(0, 0, 61)=BAD tape(0, 0, MAX)=BAD read(0, 59)=1")
            .go("tape(0, 0, -1)=SIZE read(0, 59)=1 tape(0, 0, 1)=1 read(0, 0)=0 read(0, 1)=NO");
        RUNS.says("TAPES 0 .. 5; a sort 0 .. 4, or -1")
            .go("tape(-1, 0, 1)=NONE tape(6, 0, 1)=NONE tape(MIN, 0, 1)=NONE tape(MAX, 0, 1)=NONE tape(0, 0, 1)=1 tape(5, 4, 1)=1")
            .go("tape(0, -2, 1)=BAD tape(0, 5, 1)=BAD tape(0, MIN, 1)=BAD tape(0, MAX, 1)=BAD read(0, 0)=0 read(5, 0)=0 read(4, 0)=NO")
            .go("tape(0, -1, 1)=1 read(0, 0)=NO tape(6, -1, 1)=NONE tape(-1, -1, 0)=NONE");
        RUNS.says("or holds nothing (sort -1: n does not matter)")
            .go("tape(1, 3, 60)=1 tape(1, -1, MIN)=1 read(1, 0)=NO tape(1, 3, 1)=1 tape(1, -1, -1)=1 read(1, 0)=NO tape(1, 3, 1)=1")
            .go("tape(1, -1, 61)=1 item(1, 0, 0)=NOTHING tape(1, -1, MAX)=1 tape(1, -1, 0)=1 item(1, 0, 0)=NOTHING");
        RUNS.says("NONE: tape; BAD: sort, n above 60; SIZE")
            .go("tape(6, 5, 61)=NONE tape(6, 0, 61)=NONE tape(6, 0, -1)=NONE tape(0, 5, -1)=BAD tape(0, -2, MIN)=BAD tape(0, 5, 61)=BAD")
            .go("tape(0, 4, 61)=BAD tape(0, 4, -1)=SIZE");
    }

    private static void tapeAnew() {
        for (int sort = 0; sort <= 4; sort++) {
            RUNS.says("A TAPE becomes a row, all 0: whatever it held")
                .go("tape(2, 3, 60)=1 item(2, 0, -1)=1 item(2, 59, -1)=1 tape(2, " + sort + ", 60)=1 read(2, 0)=0 read(2, 59)=0")
                .go("item(2, 0, 1)=1 item(2, 7, 1)=1 tape(2, -1, 0)=1 tape(2, " + sort + ", 8)=1 read(2, 0)=0 read(2, 7)=0 read(2, 8)=NO");
        }
    }

    private static void itemPlaces() {
        RUNS.says("Item i of a TAPE: NONE; NOTHING; PLACE")
            .go("item(-1, 0, 1)=NONE item(6, 0, 1)=NONE item(MIN, -1, 1)=NONE item(MAX, -1, 1)=NONE item(0, 0, 1)=NOTHING")
            .go("item(0, -1, 1)=NOTHING item(5, MAX, 1)=NOTHING tape(0, 1, 2)=1 item(0, -1, 1)=PLACE item(0, MIN, 1)=PLACE")
            .go("item(0, 2, 1)=PLACE item(0, MAX, 1)=PLACE read(0, 0)=0 read(0, 1)=0 item(0, 0, 5)=1 item(0, 1, 6)=1 read(0, 0)=5")
            .go("read(0, 1)=6 tape(5, 4, 1)=1 item(5, 0, 1)=1 item(5, 1, 1)=PLACE item(4, 0, 1)=NOTHING");
    }

    private static void keeps(int sort, long v, long kept) {
        RUNS.go("item(" + sort + ", 0, " + v + ")=1 read(" + sort + ", 0)=" + kept);
    }

    private static void itemBits() {
        RUNS.says("becomes v (its lowest bits, as many as an item has; booleans: whether v is not 0)")
            .go("tape(0, 0, 2)=1 tape(1, 1, 2)=1 tape(2, 2, 2)=1 tape(3, 3, 2)=1 tape(4, 4, 2)=1");
        long[][] kept = {
            {0, 127, 127}, {0, 128, -128}, {0, -128, -128}, {0, -129, 127}, {0, 255, -1}, {0, 256, 0}, {0, 1L << 40, 0},
            {1, 32767, 32767}, {1, 32768, -32768}, {1, -32768, -32768}, {1, -32769, 32767}, {1, 65535, -1}, {1, 65536, 0},
            {2, 2147483647L, 2147483647L}, {2, 2147483648L, -2147483648L}, {2, -2147483648L, -2147483648L},
            {2, -2147483649L, 2147483647L}, {2, 4294967295L, -1}, {2, 4294967296L, 0}, {2, 4294967297L, 1},
            {3, Long.MAX_VALUE, Long.MAX_VALUE}, {3, Long.MIN_VALUE, Long.MIN_VALUE}, {3, -1, -1}, {3, 1L << 40, 1L << 40},
            {4, 0, 0}, {4, 1, 1}, {4, 2, 1}, {4, -1, 1}, {4, 256, 1}, {4, 4294967296L, 1}, {4, Long.MIN_VALUE, 1}, {4, 0, 0}};
        for (long[] row : kept) {
            keeps((int) row[0], row[1], row[2]);
        }
        RUNS.go("read(0, 1)=0 read(1, 1)=0 read(2, 1)=0 read(3, 1)=0 read(4, 1)=0");
    }

    private static void read() {
        RUNS.says("NO: no such TAPE, nothing there, no such place")
            .go("read(0, 0)=NO tape(0, 3, 2)=1 item(0, 0, 8)=1 item(0, 1, 9)=1 read(0, MIN)=NO read(0, -1)=NO read(0, 0)=8 read(0, 1)=9")
            .go("read(0, 2)=NO read(0, MAX)=NO read(-1, 0)=NO read(6, 0)=NO read(MIN, 0)=NO read(MAX, 0)=NO read(5, 0)=NO tape(5, 0, 1)=1")
            .go("read(5, 0)=0 tape(0, 3, 0)=1 read(0, 0)=NO tape(5, -1, 0)=1 read(5, 0)=NO");
    }

    private static void shift() {
        RUNS.says("NONE: tapes; NOTHING; CAST: of unlike sorts")
            .go("tape(0, 2, 3)=1 tape(1, 2, 3)=1 tape(2, 1, 3)=1 shift(-1, 0, 0, 0, 1)=NONE shift(6, 0, 0, 0, 1)=NONE")
            .go("shift(0, 0, -1, 0, 1)=NONE shift(0, 0, 6, 0, 1)=NONE shift(3, 0, 6, 0, 1)=NONE shift(6, 0, 3, 0, -1)=NONE")
            .go("shift(3, 0, 0, 0, 1)=NOTHING shift(0, 0, 3, 0, 1)=NOTHING shift(3, 0, 3, 0, 1)=NOTHING shift(2, 0, 3, 0, -1)=NOTHING")
            .go("shift(3, -1, 2, 0, 1)=NOTHING shift(0, 0, 2, 0, 1)=CAST shift(2, 0, 0, 0, 1)=CAST shift(0, 0, 2, 0, -1)=CAST")
            .go("shift(0, 9, 2, 0, 1)=CAST shift(0, 0, 1, 0, 1)=1 shift(2, 0, 2, 0, 3)=3 shift(MIN, 0, MAX, 0, 0)=NONE");
        for (int sort = 0; sort <= 4; sort++) {
            for (int other = 0; other <= 4; other++) {
                RUNS.says("CAST: of unlike sorts")
                    .go("tape(0, " + sort + ", 2)=1 tape(5, " + other + ", 2)=1 item(0, 1, 1)=1 shift(0, 1, 5, 0, 1)="
                        + (sort == other ? "1" : "CAST") + " read(5, 0)=" + (sort == other ? 1 : 0));
            }
        }
    }

    private static void shiftOver() {
        String six = "tape(0, 3, 6)=1 item(0, 0, 1) item(0, 1, 2) item(0, 2, 3) item(0, 3, 4) item(0, 4, 5) item(0, 5, 6) ";
        RUNS.says("n items come to another one (or the same), as they all were before")
            .go(six + "shift(0, 0, 0, 1, 5)=5 read(0, 0)=1 read(0, 1)=1 read(0, 2)=2 read(0, 3)=3 read(0, 4)=4 read(0, 5)=5")
            .anew(six + "shift(0, 1, 0, 0, 5)=5 read(0, 0)=2 read(0, 1)=3 read(0, 4)=6 read(0, 5)=6")
            .anew(six + "shift(0, 0, 0, 0, 6)=6 read(0, 0)=1 read(0, 5)=6 shift(0, 0, 0, 5, 1)=1 read(0, 5)=1 read(0, 4)=5")
            .anew(six + "tape(1, 3, 3)=1 shift(0, 3, 1, 0, 3)=3 read(1, 0)=4 read(1, 2)=6 read(0, 3)=4 shift(1, 2, 0, 0, 1)=1 read(0, 0)=6");
    }

    private static void shiftPlaces() {
        RUNS.says("PLACE: n, i or j is below 0, or beyond either's end")
            .go("tape(0, 2, 4)=1 tape(1, 2, 2)=1 item(0, 0, 7)=1 item(0, 3, 8)=1 shift(0, 0, 1, 0, -1)=PLACE shift(0, -1, 1, 0, 1)=PLACE")
            .go("shift(0, 0, 1, -1, 1)=PLACE shift(0, 0, 1, 0, 3)=PLACE shift(1, 0, 0, 0, 3)=PLACE shift(0, 4, 1, 0, 1)=PLACE")
            .go("shift(0, 3, 1, 0, 2)=PLACE shift(0, 0, 1, 2, 1)=PLACE shift(0, 0, 1, 1, 2)=PLACE shift(0, 5, 1, 0, 0)=PLACE")
            .go("shift(0, 0, 1, 3, 0)=PLACE shift(0, -1, 1, 0, 0)=PLACE shift(0, 0, 1, -1, 0)=PLACE shift(0, MIN, 1, 0, 0)=PLACE")
            .go("shift(0, 0, 1, MIN, 0)=PLACE shift(0, 0, 1, 0, MIN)=PLACE shift(0, MAX, 1, 0, 1)=PLACE shift(0, 0, 1, MAX, 1)=PLACE")
            .go("shift(0, 1, 1, 0, MAX)=PLACE shift(0, MAX, 1, MAX, MAX)=PLACE shift(0, MIN, 1, 0, MIN)=PLACE read(1, 0)=0 read(1, 1)=0")
            .go("shift(0, 4, 1, 2, 0)=0 shift(0, 0, 1, 0, 0)=0 read(1, 0)=0 shift(0, 3, 1, 1, 1)=1 read(1, 1)=8 shift(0, 0, 1, 0, 2)=2")
            .go("read(1, 0)=7 read(1, 1)=0");
    }
}
