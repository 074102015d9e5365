/**
 * "Answers: NONE, BAD, STATE, FULL; the first that a call's words name. What is answered so changes nothing": every
 * kind of refusal of every call, alone and where several conditions are broken at once, by twins.
 */
public final class RefusalsTest {
    private static final Due DUE = new Due("RefusalsTest");
    private static final long NONE = -1, BAD = -2, STATE = -3, FULL = -4, NO = Long.MIN_VALUE;
    private static final long NOTHING = -11, CAST = -12, PLACE = -13, SIZE = -14;

    public static void main(String[] args) {
        nobody(new Twins(DUE, "nobody", Scenes::nobody));
        Twins some = new Twins(DUE, "some", Scenes::some);
        someChildren(some);
        someRanges(some);
        someTapes(some);
        Twins full = new Twins(DUE, "full", Scenes::full);
        full(full);
        severalAtOnce(full, some);
        longText(new Twins(DUE, "a text of 100 bytes", Scenes::longText));
        atTheWall(new Twins(DUE, "all at THE WALL", Scenes::atTheWall));
        faults(new Twins(DUE, "no TEXT, no TRACE", Scenes::withoutActAndText));
        undone();
        DUE.end();
    }

    private static void refused(Twins twins, long answer, String... calls) {
        for (String call : calls) {
            twins.answers(call, answer);
        }
    }

    private static void nobody(Twins t) {
        refused(t, NONE, "child(-1, 0)", "child(7, 0)", "of(0, 0)", "of(0, 9)", "set(0, 0, 0)", "set(0, 1, 0)",
            "row(0, 0, 0)", "counts(-1, 1)", "counts(4, 1)", "told(-1)", "told(5)", "told(9)", "told(14)", "on(0, 10)",
            "on(0, 2)", "touches(0)", "stands(0)", "slow(1, 2)", "order(1, -2)", "order(1, 4)", "needs(0, 1)", "held(0, 1)",
            "see(0, 0, 0)", "book(0, 0)", "judge(-1, 0)", "judge(6, 0)", "trace(0)", "trace(-1)", "tape(-1, 0, 0)",
            "tape(6, 0, 0)", "item(-1, 0, 0)", "item(6, 0, 0)", "shift(-1, 0, 0, 0, 0)", "shift(0, 0, 6, 0, 0)");
        refused(t, BAD, "child(0, -1)", "child(0, 10)", "counts(0, 0)", "counts(3, 10)", "feed(-1)", "feed(128)", "on(-1, 0)",
            "on(41, 1)", "slow(0, 0)", "slow(21, 1)", "order(0, -1)", "order(21, 3)", "look(0)", "look(21)", "who(-1, 0)",
            "who(21, 0)", "who(0, -1)", "who(0, 100)", "taken(0, -1)", "taken(0, 7)", "count(-1)", "count(6)", "tape(0, -2, 0)",
            "tape(0, 5, 0)", "tape(0, 0, 61)");
        refused(t, STATE, "undo()");
        refused(t, NO, "odds(0, 0)", "odds(21, 0)", "odds(1, -1)", "odds(1, 2)", "mean(0, 0)", "mean(0, 1)", "read(0, 0)",
            "read(-1, 0)", "read(6, 0)");
        refused(t, NOTHING, "taken(0, 0)", "taken(-1, 6)", "item(0, 0, 1)", "shift(0, 0, 0, 0, 0)", "shift(0, 0, 1, 0, 0)");
        refused(t, SIZE, "tape(0, 0, -1)", "tape(5, 4, MIN)");
        refused(t, -1001, "shield(0, 1, 1)", "shield(0, 0, 1)");
        // Not refused, but they change nothing here.
        refused(t, 0, "see(-1, 5, 5)", "book(-1, 5)", "act(0, 0, 1)", "act(-1, 1, 1)", "act(0, 3, 1)");
        refused(t, 1, "tape(0, -1, 5)");
    }

    private static void someChildren(Twins t) {
        refused(t, NONE, "child(-1, 0)", "child(7, 9)", "of(3, 0)", "of(-1, 0)", "of(0, -1)", "of(0, 9)", "set(3, 0, 0)",
            "set(-1, 1, 0)", "set(0, 2, 0)", "set(0, -1, 0)", "row(3, 0, 0)", "row(-1, 0, 0)", "row(0, -1, 0)", "row(0, 4, 0)",
            "on(0, 9)", "on(0, 13)", "touches(3)", "touches(-1)", "stands(3)", "stands(-1)", "needs(3, 1)", "needs(-1, 1)",
            "held(3, 1)", "held(-1, 1)", "see(3, 0, 0)", "see(-2, 0, 0)", "book(3, 0)", "book(-2, 0)", "trace(12)", "trace(-1)",
            "trace(20)", "trace(MAX)");
        refused(t, BAD, "child(0, -1)", "child(6, 10)", "set(0, 0, -1)", "set(0, 0, 93)", "set(0, 1, -1)", "set(0, 1, 10)",
            "row(0, 0, -1)", "row(0, 3, 10)", "counts(0, 0)", "counts(3, 10)", "on(-1, 10)", "on(41, 12)", "needs(0, 0)",
            "needs(0, 9)", "held(0, 0)", "held(0, 21)", "see(0, -1, 0)", "see(0, 21, 0)", "see(0, 0, -1)", "see(0, 0, 100)",
            "book(0, -1)", "book(0, 100)", "taken(0, -1)", "taken(0, 7)", "feed(-1)", "feed(128)", "count(6)");
        refused(t, STATE, "row(1, 0, 0)", "row(1, 0, 1)", "row(2, 3, 9)");
        refused(t, NOTHING, "taken(3, 0)", "taken(-1, 0)", "taken(MAX, 6)");
        refused(t, CAST, "taken(0, 1)", "taken(1, 3)", "taken(2, 1)", "taken(2, 6)");
        refused(t, -1001, "shield(3, 0, 1)", "shield(0, 3, 1)", "shield(-1, 0, 1)", "shield(0, -1, 1)");
        refused(t, -1002, "shield(0, 0, 1)", "shield(0, 1, 0)", "shield(0, 1, 21)");
        refused(t, NO, "odds(0, 0)", "odds(21, 1)", "odds(1, 2)", "mean(-1, 0)", "mean(41, 1)", "mean(0, 2)", "mean(0, -1)");
    }

    private static void someRanges(Twins t) {
        refused(t, NONE, "child(MIN, 0)", "child(MAX, 0)", "of(MIN, MIN)", "of(MAX, MAX)", "set(MIN, 0, 0)", "set(0, MIN, 0)",
            "row(MAX, MAX, MAX)", "counts(MIN, MIN)", "told(MIN)", "told(MAX)", "on(MIN, MIN)", "on(MAX, MAX)", "touches(MIN)",
            "stands(MAX)", "slow(MIN, MAX)", "order(MAX, MIN)", "needs(MIN, MIN)", "held(MAX, MAX)", "see(MIN, 0, 0)",
            "book(MAX, 0)", "judge(MIN, MIN)", "trace(MIN)", "tape(MAX, 0, 0)", "item(MIN, 0, 0)", "shift(MIN, 0, MAX, 0, 0)");
        refused(t, BAD, "child(0, MIN)", "child(0, MAX)", "set(0, 0, MIN)", "set(0, 0, MAX)", "set(0, 1, MIN)", "row(0, 0, MAX)",
            "counts(0, MIN)", "feed(MIN)", "feed(MAX)", "on(MIN, 0)", "on(MAX, 10)", "slow(MIN, 0)", "order(MAX, 0)", "look(MIN)",
            "look(MAX)", "needs(0, MIN)", "held(0, MAX)", "see(0, MIN, 0)", "see(0, 0, MAX)", "who(MIN, MAX)", "book(0, MIN)",
            "taken(MIN, MAX)", "count(MIN)", "count(MAX)", "tape(0, MIN, 0)", "tape(0, 0, MAX)");
        refused(t, -1001, "shield(MIN, MAX, MIN)");
        refused(t, -1002, "shield(0, 1, MIN)", "shield(1, 0, MAX)");
        refused(t, NO, "odds(MIN, MIN)", "odds(MAX, 0)", "mean(MIN, 0)", "mean(0, MAX)", "read(MIN, MIN)", "read(0, MAX)");
    }

    private static void someTapes(Twins t) {
        refused(t, NONE, "judge(-1, 0)", "judge(6, 0)", "tape(-1, 0, 1)", "tape(6, -1, 0)", "item(-1, 0, 1)", "item(6, 0, 1)",
            "shift(-1, 0, 0, 0, 1)", "shift(0, 0, 6, 0, 1)");
        refused(t, BAD, "tape(0, -2, 1)", "tape(0, 5, 1)", "tape(0, 0, 61)", "tape(3, 4, 61)");
        refused(t, SIZE, "tape(0, 1, -1)", "tape(3, 0, -1)", "tape(2, 0, MIN)");
        refused(t, CAST, "judge(1, 0)", "judge(3, 0)", "judge(4, 0)", "shift(0, 0, 1, 0, 1)", "shift(3, 0, 4, 0, 1)");
        refused(t, NOTHING, "item(2, 0, 1)", "item(5, 0, 1)", "shift(2, 0, 0, 0, 1)", "shift(0, 0, 5, 0, 1)", "shift(2, 0, 5, 0, 0)");
        refused(t, PLACE, "item(0, -1, 1)", "item(0, 4, 1)", "item(3, 60, 1)", "item(4, 2, 1)", "shift(0, -1, 0, 0, 1)",
            "shift(0, 0, 0, -1, 1)", "shift(0, 0, 0, 0, -1)", "shift(0, 3, 0, 0, 2)", "shift(0, 0, 0, 3, 2)", "shift(0, 4, 0, 0, 1)",
            "shift(0, 0, 0, 4, 1)", "shift(0, 5, 0, 0, 0)", "shift(0, 0, 0, 5, 0)", "shift(0, 0, 0, 0, 5)", "shift(3, 1, 3, 0, 60)");
        refused(t, NO, "read(0, -1)", "read(0, 4)", "read(2, 0)", "read(-1, 0)", "read(6, 0)", "read(3, 60)");
        refused(t, 100, "judge(0, -1)", "judge(0, 4)", "judge(2, 0)");
        refused(t, 0, "shift(0, 4, 0, 4, 0)", "shift(3, 60, 3, 0, 0)");
        refused(t, 4, "shift(0, 0, 0, 0, 4)");
    }

    private static void full(Twins t) {
        refused(t, FULL, "child(0, 0)", "child(6, 9)", "feed(0)", "feed(127)", "yard()", "see(0, 0, 0)", "see(6, 20, 99)",
            "book(0, 0)", "book(6, 99)");
        refused(t, BAD, "set(1, 0, 44)", "set(1, 0, -1)");
        refused(t, STATE, "row(0, 0, 1)", "row(1, 0, 1)", "row(2, 0, 1)", "row(3, 0, 1)", "row(4, 0, 1)", "row(5, 0, 1)");
        refused(t, NONE, "of(7, 0)", "set(7, 0, 0)", "row(7, 0, 0)", "on(0, 17)", "touches(7)", "stands(7)", "needs(7, 1)",
            "held(7, 1)", "see(7, 0, 0)", "book(7, 0)", "trace(0)");
        refused(t, NOTHING, "taken(7, 0)");
        refused(t, -1001, "shield(7, 0, 1)", "shield(0, 7, 1)");
        // No act() was called: so there is no TRACE that these could end.
        refused(t, 0, "act(7, 0, 1)", "act(-1, 2, 1)", "act(0, 3, 1)", "act(6, -1, 1)");
    }

    /** One call breaks several conditions: the first that its words name is answered. */
    private static void severalAtOnce(Twins full, Twins some) {
        refused(full, NONE, "child(7, 10)", "child(-1, 0)", "child(7, 0)", "set(7, 0, -1)", "set(0, 2, 99)", "row(7, 0, 10)",
            "row(0, 4, 10)", "row(0, 4, 0)", "row(7, 4, 10)", "counts(4, 0)", "counts(-1, 10)", "on(41, 17)", "on(-1, 2)",
            "slow(0, 2)", "slow(21, -1)", "order(0, 4)", "order(21, -2)", "needs(7, 0)", "held(7, 21)", "see(7, 21, 100)",
            "see(7, 0, 0)", "see(-2, -1, 0)", "book(7, 100)", "book(-2, 0)", "judge(6, -1)");
        refused(full, BAD, "child(0, 10)", "child(6, -1)", "row(0, 0, 10)", "row(5, 3, -1)", "feed(128)", "feed(-1)",
            "see(0, 21, 0)", "see(0, 0, 100)", "see(6, -1, -1)", "book(0, 100)", "book(6, -1)", "taken(7, 7)", "taken(-1, -1)");
        refused(full, -1001, "shield(7, 7, 0)", "shield(7, 7, 1)", "shield(7, 0, 21)", "shield(0, 7, 0)");
        refused(full, -1002, "shield(0, 0, 0)", "shield(6, 6, 21)");
        refused(some, NONE, "tape(6, 5, 61)", "tape(-1, 0, -1)", "tape(6, 0, 61)", "item(6, -1, 1)", "item(-1, 99, 1)",
            "shift(6, 0, 2, 0, 1)", "shift(2, 0, 6, 0, 1)", "shift(0, -1, 6, 0, 1)", "shift(-1, 0, 1, 0, -1)", "judge(-1, -1)");
        refused(some, BAD, "tape(0, 5, -1)", "tape(0, -2, MIN)", "tape(0, 5, 61)");
        refused(some, NOTHING, "item(2, -1, 1)", "item(5, 0, 0)", "shift(2, 0, 0, 9, 1)", "shift(0, 9, 2, 0, 1)",
            "shift(2, -1, 5, 0, 1)", "shift(1, 0, 2, 0, -1)");
        refused(some, CAST, "shift(0, 0, 1, 0, -1)", "shift(0, 9, 1, 0, 1)", "shift(0, 0, 3, -1, 1)", "judge(1, -1)", "judge(3, 60)");
    }

    private static void longText(Twins t) {
        refused(t, FULL, "feed(0)", "feed(59)", "feed(127)");
        refused(t, BAD, "feed(128)", "feed(-1)", "feed(MAX)");
    }

    /** By a FAULT THE TEXT is empty, by a refused act() THE TRACE is: nothing else changes. */
    private static void faults(Twins t) {
        refused(t, -10, "yard()");
        for (String text : new String[] {"x", "far", "far 7;", "far 7;sharp 1;sees 1;wobble 9 c<9;still x", ";"}) {
            t.comesToTheSame("yard() of " + text, x -> Yards.read(x, text));
        }
        t.comesToTheSame("an act() of nobody", x -> {
            x.act(0, 2, 3);
            x.act(3, 2, 3);
        });
        t.comesToTheSame("no act()", x -> {
            x.act(0, 2, 3);
            x.act(0, 3, 3);
        });
        refused(t, 0, "act(3, 0, 1)", "act(-1, 1, 1)", "act(0, 3, 1)", "act(0, -1, 1)");
        refused(t, NONE, "trace(0)");
    }

    private static WhileSheLooks imaged() {
        WhileSheLooks x = Scenes.some();
        x.image();
        return x;
    }

    /** "All is as THE IMAGE". */
    private static void undone() {
        Twins t = new Twins(DUE, "an image()", RefusalsTest::imaged);
        t.comesToTheSame("undo() at once", x -> x.undo());
        t.comesToTheSame("undo() of all that was changed", x -> {
            Scenes.changeAll(x);
            x.undo();
        });
        t.comesToTheSame("undo() twice", x -> {
            Scenes.changeAll(x);
            x.undo();
            x.undo();
        });
        t.comesToTheSame("image() again", x -> x.image());
    }

    private static void atTheWall(Twins t) {
        refused(t, BAD, "set(0, 0, 30)", "set(0, 0, -1)", "set(0, 0, 40)", "set(1, 1, 10)");
        refused(t, NONE, "set(0, 2, 3)", "set(2, 0, 3)");
        refused(t, 40, "on(0, 10)", "on(40, 11)");
        refused(t, -5, "first()", "judge(0, 0)");
        refused(t, 9, "stands(0)");
    }
}
