import java.util.Random;

/** Calls by chance, made alike of the class and of the model. */
final class Calls {
    static final int SORTS = 38;
    private static final int[] EDGES = {-1, -2, 100, 127, 128, Integer.MAX_VALUE, Integer.MIN_VALUE,
        Integer.MIN_VALUE + 9, Integer.MAX_VALUE - 6, 61, 41, 21, 10, 9999};

    private final Random by;
    private final WhileSheLooks one = new WhileSheLooks();
    private final Model model = new Model();
    private final Due due;
    private final long seed;
    private int made;

    Calls(long seed, Due due) {
        this.seed = seed;
        this.due = due;
        by = new Random(seed);
    }

    int made() {
        return made;
    }

    /** Mostly from least to most, at times far beyond. */
    private int in(int least, int most) {
        if (by.nextInt(40) == 0) {
            return EDGES[by.nextInt(EDGES.length)];
        }
        if (by.nextInt(30) == 0) {
            return by.nextBoolean() ? least - 1 : most + 1;
        }
        return least + by.nextInt(most - least + 1);
    }

    private int kid() {
        int there = model.count(0);
        return in(0, Math.max(0, there - 1));
    }

    /** A place where one is now or soon, so that what is told by hand is at times so. */
    private int placeOf(int kid, int n) {
        int there = n >= 0 && n <= 40 ? model.on(n, 10 + Math.floorMod(kid, 7)) : -1;
        return there < 0 || by.nextInt(4) == 0 ? in(0, 99) : there;
    }

    private long anyLong() {
        switch (by.nextInt(5)) {
            case 0: return by.nextLong();
            case 1: return by.nextInt();
            case 2: return 0;
            case 3: return 1L << by.nextInt(64);
            default: return in(0, 99);
        }
    }

    private void say(String call, long got, long want) {
        made++;
        due.is("seed " + seed + ", call " + made + ": " + call, got, want);
    }

    private static String list(long... all) {
        StringBuilder text = new StringBuilder("(");
        for (int i = 0; i < all.length; i++) {
            text.append(i == 0 ? "" : ", ").append(all[i]);
        }
        return text.append(")").toString();
    }

    void textAndYard(String text) {
        for (char sign : text.toCharArray()) {
            say("feed" + list(sign), one.feed(sign), model.feed(sign));
        }
        say("yard() of " + text, one.yard(), model.yard());
    }

    void someone() {
        int kind = in(0, 6);
        int v = in(0, 9);
        say("child" + list(kind, v), one.child(kind, v), model.child(kind, v));
    }

    void any() {
        make(by.nextInt(SORTS));
    }

    void make(int sort) {
        int c = kid();
        int n = in(0, 20);
        int a = in(0, 5);
        int b = in(0, 1);
        switch (sort) {
            case 0: someone(); break;
            case 1: a = in(0, 8); say("of" + list(c, a), one.of(c, a), model.of(c, a)); break;
            case 2: n = b == 1 ? in(0, 9) : in(0, 39);
                say("set" + list(c, b, n), one.set(c, b, n), model.set(c, b, n)); break;
            case 3: a = in(0, 3); n = in(0, 9);
                say("row" + list(c, a, n), one.row(c, a, n), model.row(c, a, n)); break;
            case 4: a = in(0, 3); n = in(1, 9);
                say("counts" + list(a, n), one.counts(a, n), model.counts(a, n)); break;
            case 5: n = in(0, 127); say("feed" + list(n), one.feed(n), model.feed(n)); break;
            case 6: say("yard()", one.yard(), model.yard()); break;
            case 7: a = b == 1 ? in(0, 4) : in(10, 13);
                say("told" + list(a), one.told(a), model.told(a)); break;
            case 8: say("turn()", one.turn(), model.turn()); break;
            case 9: n = in(0, 40); a = by.nextInt(3) == 0 ? b : in(10, 16);
                say("on" + list(n, a), one.on(n, a), model.on(n, a)); break;
            case 10: say("touches" + list(c), one.touches(c), model.touches(c)); break;
            case 11: say("first()", one.first(), model.first()); break;
            case 12: say("risks()", one.risks(), model.risks()); break;
            case 13: say("stands" + list(c), one.stands(c), model.stands(c)); break;
            case 14: n = in(1, 20); say("slow" + list(n, b), one.slow(n, b), model.slow(n, b)); break;
            case 15: n = in(1, 20); a = in(-1, 3);
                say("order" + list(n, a), one.order(n, a), model.order(n, a)); break;
            case 16: n = in(1, 20); say("look" + list(n), one.look(n), model.look(n)); break;
            case 17: n = in(1, 8); say("needs" + list(c, n), one.needs(c, n), model.needs(c, n)); break;
            case 18: n = in(1, 20); say("held" + list(c, n), one.held(c, n), model.held(c, n)); break;
            default: makeLater(sort, c, n, a, b); break;
        }
    }

    private void makeLater(int sort, int c, int n, int a, int b) {
        int i = in(0, 9);
        int h = placeOf(c, n);
        switch (sort) {
            case 19: a = kid(); n = in(1, 20);
                say("shield" + list(c, a, n), one.shield(c, a, n), model.shield(c, a, n)); break;
            case 20: c = by.nextInt(6) == 0 ? -1 : c;
                say("see" + list(c, n, h), one.see(c, n, h), model.see(c, n, h)); break;
            case 21: say("since()", one.since(), model.since()); break;
            case 22: say("who" + list(n, h), one.who(n, h), model.who(n, h)); break;
            case 23: n = in(1, 20); say("odds" + list(n, b), one.odds(n, b), model.odds(n, b)); break;
            case 24: n = in(0, 40); say("mean" + list(n, b), one.mean(n, b), model.mean(n, b)); break;
            case 25: c = by.nextInt(8) == 0 ? -1 : c; h = placeOf(c, 0);
                say("book" + list(c, h), one.book(c, h), model.book(c, h)); break;
            case 26: say("looked()", one.looked(), model.looked()); break;
            case 27: judgeTape(a, i); break;
            case 28: say("image()", one.image(), model.image()); break;
            case 29: say("undo()", one.undo(), model.undo()); break;
            case 30: act(c, in(0, 2), by.nextBoolean() ? by.nextInt() : in(-9, 9)); break;
            case 31: i = in(0, 21); say("trace" + list(i), one.trace(i), model.trace(i)); break;
            case 32: a = in(0, 6); say("taken" + list(c, a), one.taken(c, a), model.taken(c, a)); break;
            case 33: say("count" + list(a), one.count(a), model.count(a)); break;
            case 34: i = in(-1, 4); n = by.nextInt(3) == 0 ? in(0, 60) : in(0, 12);
                say("tape" + list(a, i, n), one.tape(a, i, n), model.tape(a, i, n)); break;
            case 35: long v = anyLong();
                say("item" + list(a, i, v), one.item(a, i, v), model.item(a, i, v)); break;
            case 36: say("read" + list(a, i), one.read(a, i), model.read(a, i)); break;
            default: int other = by.nextInt(3) == 0 ? a : in(0, 5); int j = in(0, 6);
                n = in(0, 5);
                say("shift" + list(a, i, other, j, n), one.shift(a, i, other, j, n),
                    model.shift(a, i, other, j, n)); break;
        }
    }

    private void act(int c, int act, int x) {
        say("act" + list(c, act, x), one.act(c, act, x), model.act(c, act, x));
        say("count(5)", one.count(5), model.count(5));
        for (int i = 0; i < 6; i++) {
            say("trace" + list(i), one.trace(i), model.trace(i));
        }
    }

    private void judgeTape(int a, int i) {
        if (by.nextInt(3) == 0) {
            say("tape" + list(a, 1, 12), one.tape(a, 1, 12), model.tape(a, 1, 12));
            for (int c = 0; c < model.count(0); c++) {
                int h = by.nextInt(12) == 0 ? 1 : model.of(c, 2);
                say("item" + list(a, i + c, h), one.item(a, i + c, h), model.item(a, i + c, h));
            }
        }
        say("judge" + list(a, i), one.judge(a, i), model.judge(a, i));
    }

    /** A text that is a YARD more often than not. */
    String yardText() {
        StringBuilder text = new StringBuilder();
        int clauses = by.nextInt(12) == 0 ? 9 + by.nextInt(4) : 1 + by.nextInt(4);
        boolean shorts = clauses > 6;
        for (int i = 0; i < clauses; i++) {
            text.append(i == 0 ? "" : ";");
            switch (shorts ? 2 + by.nextInt(3) : by.nextInt(7)) {
                case 2: text.append("far ").append(by.nextInt(8) == 0 ? "0" : "" + by.nextInt(100)); break;
                case 3: text.append("sharp ").append(by.nextInt(10)); break;
                case 4: text.append("sees ").append(by.nextInt(8)); break;
                case 0: text.append("still ").append(by.nextInt(12)).append(" ").append(either(0)); break;
                default: text.append("wobble ").append(by.nextInt(20)).append(" ").append(either(0)); break;
            }
        }
        if (by.nextInt(3) == 0) {
            spoil(text);
        }
        return text.length() > 100 ? text.substring(0, 100) : text.toString();
    }

    private void spoil(StringBuilder text) {
        String signs = ";()!&|<=>ckebat019 wsfx";
        int at = by.nextInt(text.length());
        char sign = signs.charAt(by.nextInt(signs.length()));
        switch (by.nextInt(4)) {
            case 0: text.insert(at, sign); break;
            case 1: text.setCharAt(at, sign); break;
            case 2: text.deleteCharAt(at); break;
            default: text.setLength(at); break;
        }
    }

    private String either(int depth) {
        StringBuilder e = new StringBuilder(both(depth));
        while (by.nextInt(4) == 0) {
            e.append("|").append(both(depth));
        }
        return e.toString();
    }

    private String both(int depth) {
        StringBuilder t = new StringBuilder(part(depth));
        while (by.nextInt(4) == 0) {
            t.append("&").append(part(depth));
        }
        return t.toString();
    }

    private String part(int depth) {
        int way = by.nextInt(6);
        if (depth < 5 && way == 0) {
            return "!" + part(depth + 1);
        }
        if (depth < 5 && way == 1) {
            return "(" + either(depth + 1) + ")";
        }
        return "" + "ckebat".charAt(by.nextInt(6)) + "<=>".charAt(by.nextInt(3)) + by.nextInt(by.nextInt(9) == 0 ? 20 : 7);
    }
}
