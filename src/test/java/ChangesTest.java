import java.util.Map;
import java.util.function.Supplier;

/** What a call changes is what its words name, and nothing else: by two objects made alike, told in Facets. */
public final class ChangesTest {
    private static final Due DUE = new Due("ChangesTest");
    /** All that THE IMAGE holds. */
    private static final String[] OF_THE_IMAGE = {"HOW MANY", "TURN", "KIND", "AT", "EARLY", "SENT", "WALL", "ROW",
        "COUNT", "YARD", "SEEN", "BOOK"};

    private final String name;
    private final Supplier<WhileSheLooks> made;
    private final Map<String, String> plain;

    private ChangesTest(String name, Supplier<WhileSheLooks> made) {
        this.name = name;
        this.made = made;
        plain = Facets.of(made.get());
    }

    public static void main(String[] args) {
        ChangesTest some = new ChangesTest("some", ChangesTest::some);
        some.isAsTold();
        all(some);
        ChangesTest imaged = new ChangesTest("with its IMAGE", () -> {
            WhileSheLooks x = some();
            x.image();
            return x;
        });
        all(imaged);
        imaged.by("undo()");
        imaged.by("image()");
        some.by("image()", "IMAGE");
        some.by("undo()", OF_THE_IMAGE);
        DUE.end();
    }

    /** Calls with what each may change; all of them are done. */
    private static void all(ChangesTest one) {
        one.by("child(6, 3)", "HOW MANY");
        one.by("set(0, 0, 3)", "AT 0");
        one.by("set(1, 0, 39)", "AT 1");
        one.by("set(3, 0, 5)", "AT 3", "WALL 3");
        one.by("set(0, 1, 0)", "EARLY 0");
        one.by("set(3, 1, 9)", "EARLY 3");
        one.by("row(0, 1, 8)", "ROW 0 1");
        one.by("row(3, 3, 0)", "ROW 3 3");
        one.by("counts(0, 9)", "COUNT 0");
        one.by("counts(3, 1)", "COUNT 3");
        one.by("turn()", "AT 0", "AT 1", "AT 2", "SENT 1", "TURN");
        one.by("feed(49)", "THE TEXT", "bytes of THE TEXT");
        one.by("see(0, 3, 7)", "SEEN");
        one.by("see(3, 0, 99)", "SEEN");
        one.by("see(-1, 0, 0)", "SEEN");
        one.by("book(3, 0)", "BOOK");
        one.by("book(-1, 0)", "BOOK");
        yards(one);
        acts(one);
        tapes(one);
    }

    private static void yards(ChangesTest one) {
        one.byText("4", "THE TEXT", "bytes of THE TEXT", "YARD", "YARDS");
        one.byText("5;still 3 k=6", "THE TEXT", "bytes of THE TEXT", "YARD", "YARDS");
        one.byText("5;still 3 k=", "THE TEXT", "bytes of THE TEXT");
        one.byText("x", "THE TEXT", "bytes of THE TEXT");
    }

    private static void acts(ChangesTest one) {
        for (int c = 0; c < Facets.CHILDREN; c++) {
            for (int act = 0; act <= 2; act++) {
                one.by("act(" + c + ", " + act + ", 9)", "bodies", "TRACE");
            }
        }
        one.by("act(4, 0, 9)", "bodies", "TRACE");
        one.by("act(0, 3, 9)", "bodies", "TRACE");
    }

    private static void tapes(ChangesTest one) {
        for (int tape = 0; tape < 6; tape++) {
            for (int sort = -1; sort <= 4; sort++) {
                one.by("tape(" + tape + ", " + sort + ", 4)", "TAPE " + tape);
            }
        }
        one.by("item(0, 0, 9)", "TAPE 0 item 0");
        one.by("item(0, 3, 9)", "TAPE 0 item 3");
        one.by("item(4, 1, 0)", "TAPE 4 item 1");
        one.by("item(3, 59, 9)", "TAPE 3 item 59");
        one.by("shift(0, 0, 5, 1, 2)", "TAPE 5 item 1", "TAPE 5 item 2");
        one.by("shift(5, 0, 0, 1, 3)", "TAPE 0 item 1", "TAPE 0 item 2", "TAPE 0 item 3");
        one.by("shift(3, 0, 3, 2, 2)", "TAPE 3 item 2", "TAPE 3 item 3");
        one.by("shift(3, 58, 3, 59, 1)", "TAPE 3 item 59");
        one.by("shift(0, 4, 0, 4, 0)");
    }

    /** Two TOLD ones, one RECKLESS, one at THE WALL, though FAR is more by now; THE IMAGE is otherwise in all. */
    private static WhileSheLooks some() {
        WhileSheLooks x = Yards.with("wobble 2 c=0;still 1 a>0;far 43;sharp 4;sees 2", 6, 4, 4, 8, 0, 8);
        calls(x, "row(0, 0, 5)", "row(0, 1, 1)", "row(0, 3, 2)", "counts(0, 4)", "counts(1, 2)", "counts(2, 3)",
            "counts(3, 5)", "set(2, 0, 42)", "turn()", "see(0, 0, 8)", "see(1, 2, 20)", "book(1, 20)", "book(2, 31)",
            "image()");
        calls(x, "child(6, 9)", "row(3, 1, 3)", "row(3, 3, 9)", "row(0, 1, 7)", "set(2, 0, 2)", "set(3, 0, 42)", "turn()",
            "set(0, 1, 2)", "set(1, 1, 3)", "set(2, 1, 4)", "set(3, 1, 5)", "counts(0, 6)", "counts(1, 9)", "counts(2, 7)",
            "counts(3, 8)", "set(0, 0, 9)", "set(1, 0, 3)", "set(2, 0, 12)", "see(-1, 0, 0)", "see(0, 0, 7)",
            "see(1, 2, 20)", "see(0, 1, 7)", "book(-1, 0)", "book(0, 7)", "book(1, 20)", "book(2, 30)");
        Yards.read(x, "wobble 3 c=0;still 2 a>1;wobble 4 k=4;far 97;sharp 5;sees 1");
        calls(x, "tape(0, 1, 4)", "item(0, 0, 31)", "item(0, 3, -2)", "tape(1, 0, 3)", "item(1, 0, -7)", "item(1, 2, 5)",
            "tape(3, 3, 60)", "item(3, 0, 8)", "item(3, 1, 6)", "item(3, 59, 123456789012)", "tape(4, 4, 2)",
            "item(4, 0, 1)", "item(4, 1, 1)", "tape(5, 1, 4)", "item(5, 0, 21)", "item(5, 1, 22)", "item(5, 2, 23)",
            "act(3, 2, 3)");
        Yards.feed(x, "far 4");
        return x;
    }

    /** Worked out by hand: what both objects had lost alike would not be seen else. */
    private void isAsTold() {
        told("", "HOW MANY=4;TURN=2;AT 0=9;AT 1=3;AT 2=12;AT 3=43;EARLY 0=2;EARLY 1=3;EARLY 2=4;EARLY 3=5;SENT 0=0;SENT 1=2;"
            + "SENT 2=0;SENT 3=0;WALL 0=0;WALL 1=0;WALL 2=0;WALL 3=1;ROW 0 0=5;ROW 0 1=7;ROW 0 2=0;ROW 0 3=2;ROW 3 0=0;"
            + "ROW 3 1=3;ROW 3 2=0;ROW 3 3=9;ROW 1 0=-3;COUNT 0=6;COUNT 1=9;COUNT 2=7;COUNT 3=8;KIND 0=6 4;KIND 1=4 8;"
            + "KIND 2=0 8;KIND 3=6 9");
        told("", "YARD=97 5 1;YARD, E for 0=3 1;YARD, E for 1=15 13;YARD, E for 2=2 0;YARD, E for 3=1 0;SEEN=3;"
            + "SEEN, by 7 and 20=15;SEEN, by 8 and 20=0;SEEN, by 7 and 21=0;BOOK=3;BOOK, by 7, 20, 30=-5;"
            + "BOOK, by 7, 21, 30=1;BOOK, by 7, 21, 31=1;YARDS=2;bytes of THE TEXT=5;THE TEXT=41;bodies=12;TRACE 0=40;"
            + "TRACE 1=12;TRACE 11=10;TRACE 12=-1");
        told("", "TAPE 0 item 0=31;TAPE 0 item 3=-2;TAPE 0 sort=1 883;TAPE 1 item 0=-7;TAPE 1 item 2=5;TAPE 1 sort=1 115;"
            + "TAPE 3 item 0=8;TAPE 3 item 1=6;TAPE 3 item 59=123456789012;TAPE 3 sort=1 5000070003;TAPE 4 item 0=1;"
            + "TAPE 4 item 1=1;TAPE 4 sort=1 1;TAPE 5 item 0=21;TAPE 5 item 1=22;TAPE 5 item 2=23;TAPE 5 sort=1 883;"
            + "TAPE 2 sort=-11 -9223372036854775808;IMAGE=3");
        told("IMAGE: ", "HOW MANY=3;TURN=1;AT 0=21;AT 1=0;AT 2=43;EARLY 0=1;EARLY 1=1;EARLY 2=1;SENT 0=0;SENT 1=1;SENT 2=0;"
            + "WALL 0=0;WALL 1=0;WALL 2=1;WALL 3=-1;ROW 0 0=5;ROW 0 1=1;ROW 0 2=0;ROW 0 3=2;COUNT 0=4;COUNT 1=2;COUNT 2=3;"
            + "COUNT 3=5;YARD=43 4 2;YARD, E for 0=2 1;YARD, E for 1=11 10;YARD, E for 2=2 1;SEEN=2;SEEN, by 7 and 20=0;"
            + "SEEN, by 8 and 20=15;SEEN, by 7 and 21=0;BOOK=2;BOOK, by 7, 20, 30=1;BOOK, by 7, 21, 30=0");
    }

    private void told(String when, String facets) {
        for (String each : facets.split(";")) {
            int middle = each.indexOf('=');
            String is = plain.get(when + each.substring(0, middle));
            DUE.isTrue(name + ": " + when + each + ", not" + is, (" " + each.substring(middle + 1)).equals(is));
        }
    }

    private static void calls(WhileSheLooks x, String... all) {
        for (String call : all) {
            long answer = Runs.call(x, call);
            DUE.isTrue(call + " is not refused: " + answer, answer >= 0 || call.startsWith("act"));
        }
    }

    /** A call that is not refused. */
    private void by(String call, String... changed) {
        WhileSheLooks x = made.get();
        calls(x, call);
        compare(call, Facets.of(x), changed);
    }

    /** These signs behind THE TEXT, and yard(). */
    private void byText(String signs, String... changed) {
        WhileSheLooks x = made.get();
        Yards.read(x, signs);
        compare("yard() of .." + signs, Facets.of(x), changed);
    }

    private void compare(String call, Map<String, String> then, String... changed) {
        for (Map.Entry<String, String> each : plain.entrySet()) {
            boolean same = each.getValue().equals(then.get(each.getKey()));
            DUE.isTrue(name + ": " + call + " changes " + each.getKey() + ":" + each.getValue() + " becomes"
                + then.get(each.getKey()), same || isOf(each.getKey(), changed));
        }
    }

    private static boolean isOf(String facet, String... names) {
        for (String each : names) {
            if (facet.equals(each) || facet.startsWith(each + " ") || facet.startsWith(each + ":")
                || facet.startsWith(each + ",")) {
                return true;
            }
        }
        return false;
    }
}
