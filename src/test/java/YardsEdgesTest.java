/** Promises 7 to 9 and what a YARD is: each sentence that names an edge, at the edge and on either side. */
public final class YardsEdgesTest {
    private static final Due DUE = new Due("YardsEdgesTest");
    private static final Runs RUNS = new Runs(DUE);

    public static void main(String[] args) {
        feed();
        hundredBytes();
        clauses();
        tenHold();
        words();
        blanks();
        digits();
        joints();
        tests();
        depth();
        whereItEnds();
        eachWrongByte();
        sixYards();
        afterAFault();
        whatIsTold();
        whatIsWithout();
        theLastOnes();
        childNumbers();
        kinds();
        early();
        counts();
        at();
        turns();
        greatNumbers();
        shake();
        precedence();
        DUE.end();
    }

    private static void feed() {
        RUNS.says("A sign (0 .. 127) comes behind THE TEXT's: how many it has")
            .go("feed(MIN)=BAD feed(-1)=BAD count(4)=0 feed(0)=1 feed(127)=2 feed(128)=BAD feed(MAX)=BAD count(4)=2")
            .go("feed(1)=3 feed(126)=4 count(4)=4");
    }

    private static String hundred() {
        return "wobble 1 c=1" + "|c=1".repeat(22);
    }

    private static void hundredBytes() {
        RUNS.says("THE TEXT (bytes, 100 at most)");
        for (int i = 1; i <= 98; i++) {
            RUNS.go("feed(99)=" + i);
        }
        RUNS.go("feed(128)=BAD feed(99)=99 feed(99)=100 feed(99)=FULL count(4)=100 feed(0)=FULL yard()=-10")
            .go("count(4)=0 feed(99)=1");
        RUNS.anew("child(0, 0) child(0, 0) yard{" + hundred() + "}=0 of(0, 8)=0 of(1, 8)=1");
        RUNS.anew("feed{" + hundred() + "}=100 feed(59)=FULL yard()=0 count(1)=1");
        RUNS.says("the end of THE TEXT: 100")
            .go("yard{wobble 11 c=1" + "|c=1".repeat(21) + "|c=}=-110")
            .go("yard{wobble 1 c=1" + "|c=1".repeat(21) + "|c=}=-109")
            .go("yard{wobble 1 c=1" + "|c=1".repeat(21) + "|c=x}=-109")
            .go("yard{wobble 1 c=1" + "|c=1".repeat(21) + "|}=-107");
    }

    private static void clauses() {
        RUNS.says("CLAUSES, 1 to 10")
            .go("yard{}=-10 yard{far 7}=0 told(1)=7")
            .go("yard{far 1;" + "sees 1;".repeat(7) + "far 9}=1 told(1)=9")
            .go("yard{far 1;" + "sees 1;".repeat(8) + "far 8}=2 told(1)=8")
            .go("yard{far 1;" + "sees 1;".repeat(8) + "far 8;}=-77")
            .go("yard{far 1;" + "sees 1;".repeat(9) + "far 7}=-78 told(1)=8");
        RUNS.says("with ; between")
            .go("yard{;}=-10 yard{;far 1}=-10 yard{far 1;}=-16 yard{far 1;;far 1}=-16 yard{far 1,far 1}=-15")
            .go("yard{far 1far 1}=-15 yard{far 1:far 1}=-15 yard{far 1;far 1}=0 yard{sees 1;sees 2;sees 3}=1");
    }

    private static void tenHold() {
        RUNS.says("CLAUSES, 1 to 10: all of them hold")
            .go("child(4, 0) of(0, 8)=7 yard{" + "still 1 c=0;".repeat(6) + "far 9;far 9;far 9;far 8}=0 of(0, 8)=1 told(1)=8")
            .go("yard{far 9;far 9;far 9;far 7" + ";still 1 c=0".repeat(6) + "}=1 of(0, 8)=1 told(1)=7");
        RUNS.anew("child(4, 0) feed{" + "sees 1;".repeat(8) + "wobble 2 c=0;wobble 4 c=0}=81 yard()=0 of(0, 8)=13");
        RUNS.anew("child(4, 0) feed{wobble 2 c=0;wobble 4 c=0" + ";sees 1".repeat(8) + "}=81 yard()=0 of(0, 8)=13");
        RUNS.says("what was read of a YARD with a FAULT is none of the next one")
            .go("child(4, 0) yard{wobble 9 c=0;wobble 9 c=0;wobble 9 c=0;far 9;sharp 9;sees 1;x}=-70")
            .go("yard{wobble 1 c=0}=0 of(0, 8)=8 told(1)=40 told(2)=3 told(3)=9")
            .go("yard{still 1 c=0;still 1 c=0;still 1 c=0&!c=1|}=-51 yard{sees 2}=1 of(0, 8)=7");
    }

    private static void words() {
        RUNS.says("wobble n E; still n E; far n; sharp n; sees n")
            .go("yard{wobbl 1 c=1}=-15 yard{wobblee 1 c=1}=-16 yard{stil 1 c=1}=-14 yard{stills 1 c=1}=-15")
            .go("yard{fa 1}=-12 yard{fars 1}=-13 yard{shar 1}=-14 yard{sharpe 1}=-15 yard{see 1}=-13 yard{seen 1}=-13")
            .go("yard{f}=-11 yard{w}=-11 yard{sh}=-12 yard{se}=-12 yard{s }=-11 yard{v}=-10 yard{x}=-10")
            .go("yard{Far 1}=-10 yard{fAr 1}=-11 yard{far 1 c=1}=-15 yard{sharp 1 c=1}=-17 yard{sees 1 c=1}=-16")
            .go("yard{wobble 1}=-18 yard{still 1}=-17 yard{still 1;far 1}=-17 count(1)=0")
            .go("yard{wobble 1 c=1}=0 yard{still 1 c=1}=1 yard{far 1}=2 yard{sharp 1}=3 yard{sees 1}=4");
    }

    private static void blanks() {
        RUNS.says("one blank ahead of each part behind the word")
            .go("yard{far1}=-13 yard{far  1}=-14 yard{far 1 }=-15 yard{ far 1}=-10 yard{far 1; far 1}=-16")
            .go("yard{far 1 ;far 1}=-15 yard{far\t1}=-13 yard{wobble1 c=1}=-16 yard{wobble  1 c=1}=-17")
            .go("yard{wobble 1c=1}=-18 yard{wobble 1  c=1}=-19 yard{wobble 1 c =1}=-20 yard{wobble 1 c= 1}=-21")
            .go("yard{wobble 1 c=1 |k=1}=-22 yard{wobble 1 c=1| k=1}=-23 yard{wobble 1 ! c=1}=-20")
            .go("yard{wobble 1 ( c=1)}=-20 yard{wobble 1 (c=1 )}=-23 count(1)=0 yard{wobble 1 (c=1)}=0");
    }

    private static void digits() {
        RUNS.says("n 1 or 2 digits")
            .go("yard{far }=-14 yard{far x}=-14 yard{far -1}=-14 yard{far /}=-14 yard{far :}=-14 yard{far 1/}=-15")
            .go("yard{far 100}=-16 yard{sharp 100}=-18 yard{sees 100}=-17 yard{wobble 100 c=1}=-19")
            .go("yard{still 100 c=1}=-18 yard{far 000}=-16 yard{wobble  c=1}=-17 yard{wobble c=1}=-17 count(1)=0")
            .go("yard{far 9;sharp 0;sees 9}=0 told(1)=9 told(2)=0 told(3)=9")
            .go("yard{far 10;sharp 99;sees 90}=1 told(1)=10 told(2)=99 told(3)=90")
            .go("yard{far 09;sharp 00;sees 01}=2 told(1)=9 told(2)=0 told(3)=1");
        RUNS.says("wobble n: 1 or 2 digits")
            .go("child(0, 0) yard{wobble 0 c=0} of(0, 8)=0 yard{wobble 9 c=0} of(0, 8)=9 yard{wobble 10 c=0} of(0, 8)=10")
            .go("yard{wobble 99 c=0} of(0, 8)=99 yard{wobble 09 c=0} of(0, 8)=9 yard{wobble 90 c=0} of(0, 8)=90");
    }

    private static void joints() {
        RUNS.says("E: T or T|E. T: F or F&T")
            .go("yard{wobble 1 |c=1}=-19 yard{wobble 1 &c=1}=-19 yard{wobble 1 c=1|}=-23 yard{wobble 1 c=1&}=-23")
            .go("yard{wobble 1 c=1||c=1}=-23 yard{wobble 1 c=1&&c=1}=-23 yard{wobble 1 c=1|&c=1}=-23")
            .go("yard{wobble 1 c=1&|c=1}=-23 yard{wobble 1 c=1|;far 1}=-23 yard{wobble 1 c=1c=1}=-22 count(1)=0")
            .go("yard{wobble 1 c=1}=0 yard{wobble 1 c=1|c=1}=1 yard{wobble 1 c=1&c=1}=2")
            .go("yard{wobble 1 c=1|c=1&c=1|c=1}=3");
        RUNS.says("F: !F, (E), or a TEST")
            .go("yard{wobble 1 !}=-20 yard{wobble 1 !|c=1}=-20 yard{wobble 1 c!=1}=-20 yard{wobble 1 c=1!}=-22")
            .go("yard{wobble 1 (}=-20 yard{wobble 1 ()}=-20 yard{wobble 1 (c=1}=-23 yard{wobble 1 (c=1;far 1}=-23")
            .go("yard{wobble 1 )}=-19 yard{wobble 1 c=1)}=-22 yard{wobble 1 (c=1))}=-24 yard{wobble 1 (c=1)c=1}=-24")
            .go("yard{wobble 1 (c=1)!c=1}=-24 yard{wobble 1 c=1(c=1)}=-22 yard{wobble 1 [c=1]}=-19 count(1)=0")
            .go("yard{wobble 1 !c=1}=0 yard{wobble 1 (c=1)}=1 yard{wobble 1 !(c=1)&(!c=1)}=2");
    }

    private static void tests() {
        RUNS.says("a TEST: a letter, < or = or >, a number (1 or 2 digits)")
            .go("yard{wobble 1 d=1}=-19 yard{wobble 1 C=1}=-19 yard{wobble 1 1=c}=-19 yard{wobble 1 =1}=-19")
            .go("yard{wobble 1 c}=-20 yard{wobble 1 c1}=-20 yard{wobble 1 c;1}=-20 yard{wobble 1 c?1}=-20")
            .go("yard{wobble 1 c=}=-21 yard{wobble 1 c==1}=-21 yard{wobble 1 c<=1}=-21 yard{wobble 1 c=x}=-21")
            .go("yard{wobble 1 c=-1}=-21 yard{wobble 1 c=123}=-23 yard{wobble 1 ck=1}=-20 count(1)=0")
            .go("yard{wobble 1 c<0|k=9|e>10}=0 yard{wobble 1 b<99|a=00|t>5}=1");
    }

    private static void depth() {
        RUNS.says("A ( or ! within 4 others is none")
            .go("yard{far 1;still 1 (((c=1)))}=0 yard{far 2;still 1 ((((c=1))))}=1 told(1)=2")
            .go("yard{far 3;still 1 (((((c=1)))))}=-28 yard{far 3;still 1 ((((!c=1))))}=-28 told(1)=2")
            .go("yard{still 1 !!!!c=1}=2 yard{still 1 !!!!!c=1}=-22 yard{still 1 !!!!(c=1)}=-22")
            .go("yard{still 1 !(!(c=1))}=3 yard{still 1 !(!(!c=1))}=-22 yard{still 1 !(!((c=1)))}=-22")
            .go("yard{still 1 ((((c=1)&c=1)|c=1)&c=1)&((((c=1))))}=4 yard{still 1 c=1&((((c=1|(c=1)))))}=-30")
            .go("yard{still 1 ((((c=1))|(((c=1)))))}=-30 yard{still 1 ((((c=1))|((c=1))))}=5");
    }

    private static void whereItEnds() {
        String all = "wobble 12 !(c<34&k=5)|e>6;far 78;sharp 9;sees 10";
        String whole = " 21 25 31 32 40 47 48 ";
        for (int length = 0; length <= all.length(); length++) {
            int due = whole.contains(" " + length + " ") ? 0 : -10 - length;
            RUNS.says("The FAULT: the end of THE TEXT, if it ends too early")
                .go("feed{" + all.substring(0, length) + "} yard()=" + due + " count(1)=" + (due == 0 ? 1 : 0));
        }
    }

    private static void eachWrongByte() {
        String all = "wobble 12 !(c<34&k=5)|e>6;far 78;sharp 9;sees 10";
        for (int place = 0; place <= all.length(); place++) {
            for (int sign : new int[] {0, 10, '~', 127}) {
                String behind = place < all.length() ? all.substring(place + 1) : "";
                RUNS.says("The FAULT: the place of the first byte with which none begins so")
                    .go("feed{" + all.substring(0, place) + "} feed(" + sign + ") feed{" + behind + "} yard()="
                        + (-10 - place) + " count(4)=0 count(1)=0");
            }
        }
    }

    private static void sixYards() {
        RUNS.says("The newest YARD holds (6 at most)")
            .go("yard{far 11}=0 told(1)=11 yard{far 12}=1 told(1)=12 yard{far 13}=2 yard{far 14}=3 yard{far 15}=4")
            .go("count(1)=5 yard{x}=-10 count(1)=5 told(1)=15 yard{far 16}=5 count(1)=6 told(1)=16 count(4)=0")
            .go("yard{far 17}=FULL count(1)=6 told(1)=16");
        RUNS.says("FULL: there are 6 (THE TEXT stays)")
            .go("yard{far 1} yard{far 1} yard{far 1} yard{far 1} yard{far 1} yard{far 1} yard()=FULL count(4)=0")
            .go("feed{x}=1 yard()=FULL count(4)=1 feed{y}=2 yard()=FULL count(4)=2");
    }

    private static void afterAFault() {
        RUNS.says("-10 less the FAULT (the one that held holds)")
            .go("child(0, 0) yard{x}=-10 told(1)=40 count(4)=0 of(0, 8)=0")
            .go("yard{far 20;sharp 5;sees 2;wobble 3 c=0}=0 told(1)=20 of(0, 8)=3")
            .go("yard{far 30;sharp 1;sees 1;wobble 9 c=0;}=-45 count(4)=0 count(1)=1")
            .go("told(1)=20 told(2)=5 told(3)=2 of(0, 8)=3 yard{far 21}=1 told(1)=21 told(2)=3 of(0, 8)=0");
        RUNS.says("THE TEXT, which is empty then")
            .go("yard{far 20}=0 count(4)=0 yard()=-10 yard{far 2x}=-15 count(4)=0 yard{far 22}=1 told(1)=22");
    }

    private static void whatIsTold() {
        RUNS.says("told: what 0 .. 4, 10 and k")
            .go("yard{far 31;sharp 32;sees 33} counts(0, 4) counts(1, 5) counts(2, 6) counts(3, 7)")
            .go("told(MIN)=NONE told(-1)=NONE told(0)=0 told(1)=31 told(2)=32 told(3)=33 told(4)=0 told(5)=NONE")
            .go("told(9)=NONE told(10)=4 told(11)=5 told(12)=6 told(13)=7 told(14)=NONE told(MAX)=NONE");
        RUNS.says("who is at THE WALL stays there, AT as it was")
            .go("child(0, 8) child(0, 8) set(0, 0, 39) turn()=0 of(0, 2)=40 told(4)=1")
            .go("yard{far 41}=0 told(4)=1 of(0, 2)=40 of(0, 5)=1 yard{far 39}=1 told(4)=1 of(0, 2)=40")
            .go("yard{far 8}=2 told(4)=1 of(1, 2)=8 of(1, 5)=0 turn()=0 told(4)=3 of(1, 2)=8");
    }

    private static void whatIsWithout() {
        RUNS.says("FAR (40 without; 1 if less)")
            .go("told(1)=40 yard{sharp 1}=0 told(1)=40 yard{far 0}=1 told(1)=1 yard{far 00}=2 told(1)=1")
            .go("yard{far 1}=3 told(1)=1 yard{far 2}=4 told(1)=2 yard{far 99}=5 told(1)=99");
        RUNS.says("SHARP (3 without)")
            .go("told(2)=3 yard{far 9}=0 told(2)=3 yard{sharp 0}=1 told(2)=0 yard{sharp 1}=2 told(2)=1")
            .go("yard{sharp 99}=3 told(2)=99 yard{sees 1}=4 told(2)=3");
        RUNS.says("SEES (9 without)")
            .go("told(3)=9 yard{far 9}=0 told(3)=9 yard{sees 0}=1 told(3)=0 yard{sees 1}=2 told(3)=1")
            .go("yard{sees 99}=3 told(3)=99 yard{still 1 c=1}=4 told(3)=9");
    }

    private static void theLastOnes() {
        RUNS.says("the last one's n")
            .go("yard{far 9;far 8}=0 told(1)=8 yard{far 8;far 9;sharp 1;sees 1}=1 told(1)=9")
            .go("yard{far 5;far 0}=2 told(1)=1 yard{far 0;far 5}=3 told(1)=5")
            .go("yard{sharp 9;sees 8;sharp 0;sees 0}=4 told(2)=0 told(3)=0")
            .go("yard{sharp 0;sees 0;sharp 9;sees 8}=5 told(2)=9 told(3)=8 told(1)=40");
    }

    /** A CHILD with v 0 and EARLY 1 WOBBLES as much as its SHAKE is. */
    private static void childNumbers() {
        RUNS.says("c its number")
            .go("child(0, 0) child(0, 0) child(0, 0) child(0, 0)")
            .go("yard{wobble 5 c<2} of(0, 8)=5 of(1, 8)=5 of(2, 8)=0 of(3, 8)=0")
            .go("yard{wobble 5 c=2} of(1, 8)=0 of(2, 8)=5 of(3, 8)=0")
            .go("yard{wobble 5 c>2} of(1, 8)=0 of(2, 8)=0 of(3, 8)=5 yard{wobble 5 c=0} of(0, 8)=5 of(1, 8)=0");
    }

    private static void kinds() {
        RUNS.says("k its KIND")
            .go("child(0, 0) child(1, 0) child(2, 0) child(3, 0) child(4, 0) child(5, 0) child(6, 0)")
            .go("yard{wobble 20 k<2} of(0, 8)=20 of(1, 8)=22 of(2, 8)=0 of(4, 8)=7")
            .go("yard{wobble 20 k=4} of(1, 8)=2 of(3, 8)=0 of(4, 8)=27 of(5, 8)=0")
            .go("yard{wobble 20 k>4} of(4, 8)=7 of(5, 8)=19 of(6, 8)=3")
            .go("yard{wobble 20 k=6} of(5, 8)=0 of(6, 8)=3 yard{wobble 20 k=0} of(0, 8)=20 of(1, 8)=2");
    }

    private static void early() {
        RUNS.says("e EARLY")
            .go("child(0, 0) counts(0, 9) yard{wobble 30 e<4} set(0, 1, 3) of(0, 8)=26 set(0, 1, 4) of(0, 8)=0")
            .go("yard{wobble 30 e=4} of(0, 8)=24 set(0, 1, 3) of(0, 8)=0 set(0, 1, 5) of(0, 8)=0")
            .go("yard{wobble 30 e>4} of(0, 8)=22 set(0, 1, 4) of(0, 8)=0")
            .go("yard{wobble 30 e=0} set(0, 1, 0) of(0, 8)=32 set(0, 1, 1) of(0, 8)=0");
    }

    private static void counts() {
        RUNS.says("b her COUNT then")
            .go("child(0, 0) yard{wobble 30 b<5;sharp 99} counts(0, 4) of(0, 8)=30 counts(0, 5) of(0, 8)=0")
            .go("yard{wobble 30 b=5;sharp 99} of(0, 8)=30 counts(0, 4) of(0, 8)=0 counts(0, 6) of(0, 8)=0")
            .go("yard{wobble 30 b>5;sharp 99} of(0, 8)=30 counts(0, 5) of(0, 8)=0 counts(1, 6)=3 turn()=0 of(0, 8)=30")
            .go("turn()=0 of(0, 8)=0");
    }

    private static void at() {
        RUNS.says("a AT by 5 (cut)")
            .go("child(0, 0) yard{wobble 30 a<2;far 99} set(0, 0, 9) of(0, 8)=30 set(0, 0, 10) of(0, 8)=0")
            .go("yard{wobble 30 a=2;far 99} of(0, 8)=30 set(0, 0, 9) of(0, 8)=0 set(0, 0, 14) of(0, 8)=30")
            .go("set(0, 0, 15) of(0, 8)=0 yard{wobble 30 a>2;far 99} of(0, 8)=30 set(0, 0, 14) of(0, 8)=0")
            .go("yard{wobble 30 a=0;far 99} set(0, 0, 0) of(0, 8)=30 set(0, 0, 4) of(0, 8)=30 set(0, 0, 5) of(0, 8)=0")
            .go("yard{wobble 30 a=19;far 99} set(0, 0, 94) of(0, 8)=0 set(0, 0, 95) of(0, 8)=30 set(0, 0, 98) of(0, 8)=30");
    }

    private static void turns() {
        RUNS.says("t TURN modulo 10")
            .go("child(0, 0) set(0, 1, 2) yard{wobble 30 t<1;sharp 99;far 99} of(0, 8)=28 turn()=0 of(0, 8)=0");
        for (int turn = 1; turn < 8; turn++) {
            RUNS.go("turn()=0 of(0, 8)=0");
        }
        RUNS.go("yard{wobble 30 t=9;sharp 99;far 99} of(0, 8)=0 turn()=0 told(0)=9 of(0, 8)=28 turn()=0 of(0, 8)=0")
            .go("yard{wobble 30 t<1;sharp 99;far 99} of(0, 8)=28 yard{wobble 30 t=0;sharp 99;far 99} of(0, 8)=28")
            .go("yard{wobble 30 t=10|t>0;sharp 99;far 99} of(0, 8)=0 turn()=0 told(0)=11 of(0, 8)=28");
    }

    private static void greatNumbers() {
        for (char letter : "ckebat".toCharArray()) {
            RUNS.says("a number (1 or 2 digits): 0 and 99 beside what " + letter + " can be")
                .go("child(4, 0) set(0, 0, 7) counts(0, 2)")
                .go("yard{still 5 " + letter + "<99} of(0, 8)=2 yard{still 5 " + letter + "=99} of(0, 8)=7")
                .go("yard{still 5 " + letter + ">99} of(0, 8)=7 yard{still 5 " + letter + "<0} of(0, 8)=7");
        }
    }

    private static void shake() {
        RUNS.says("SHAKE: the n of all wobble whose E holds, less those of all still, together (may be below 0)")
            .go("child(4, 0) of(0, 8)=7 yard{wobble 5 c=0;still 6 c=0} of(0, 8)=6")
            .go("yard{still 1 c=0;still 2 k=4;still 9 c=1} of(0, 8)=4 yard{still 9 c=0;wobble 9 c=0} of(0, 8)=7")
            .go("yard{wobble 9 c=1;wobble 1 c=0;wobble 2 k=4} of(0, 8)=10")
            .go("yard{wobble 99 c=0;wobble 99 c=0;wobble 99 c=0;wobble 99 c=0;wobble 99 c=0;wobble 99 c=0;wobble 99 c=0}=4")
            .go("of(0, 8)=700 yard{far 9;wobble 3 c=0;sharp 9;still 1 c=0;sees 2;wobble 4 c=0}=5 of(0, 8)=13");
    }

    private static void precedence() {
        RUNS.says("E: T or T|E. T: F or F&T. F: !F: what binds first")
            .go("child(0, 0) yard{wobble 5 c=0|c=1&c=1} of(0, 8)=5 yard{wobble 5 c=1&c=1|c=0} of(0, 8)=5")
            .go("yard{wobble 5 (c=0|c=1)&c=1} of(0, 8)=0 yard{wobble 5 !c=1&c=0} of(0, 8)=5")
            .go("yard{wobble 5 !(c=1&c=0)&!c=1} of(0, 8)=5 yard{wobble 5 !!!!c=0} of(0, 8)=5")
            .anew("child(0, 0) yard{wobble 5 !!!c=0} of(0, 8)=0 yard{wobble 5 !c=0|c=0} of(0, 8)=5")
            .go("yard{wobble 5 c=1|(c=0&(c=1|(c=0&(c=0|c=1))))} of(0, 8)=5")
            .go("yard{wobble 5 c=0&(c=1|(c=0&(c=1|(c=1|c=0&c=1))))} of(0, 8)=0")
            .go("yard{wobble 5 c=1|c=1|c=1&c=0|c=0&c=0&c=0} of(0, 8)=5 yard{wobble 5 c=0&c=0&c=0&c=1} of(0, 8)=0");
    }
}
