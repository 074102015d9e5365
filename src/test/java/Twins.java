import java.util.ArrayList;
import java.util.List;
import java.util.function.Consumer;
import java.util.function.Supplier;

/**
 * Two objects made alike, of which one is asked or refused something: if nothing has changed by that,
 * both answer alike whatever is called of them from then on.
 */
final class Twins {
    private final Due due;
    private final String name;
    private final Supplier<WhileSheLooks> made;
    private final List<String> plain;

    Twins(Due due, String name, Supplier<WhileSheLooks> made) {
        this.due = due;
        this.name = name;
        this.made = made;
        plain = lookOver(made.get());
    }

    /** The call (told as text) answers so, and changes nothing. */
    void answers(String call, long want) {
        WhileSheLooks one = made.get();
        due.is(name + ": " + call, Runs.call(one, call), want);
        same(call, one);
    }

    /** Whatever the call answers, it changes nothing. */
    void asks(String call) {
        WhileSheLooks one = made.get();
        Runs.call(one, call);
        same(call, one);
    }

    /** Calls that come to the same as none: told by what they are, made by hand. */
    void comesToTheSame(String calls, Consumer<WhileSheLooks> all) {
        WhileSheLooks one = made.get();
        all.accept(one);
        same(calls, one);
    }

    private void same(String call, WhileSheLooks one) {
        List<String> then = lookOver(one);
        for (int i = 0; i < plain.size(); i++) {
            boolean same = plain.get(i).equals(then.get(i));
            due.isTrue(name + ": " + call + " changes nothing: " + plain.get(i) + " then " + then.get(i), same);
        }
    }

    /** What it answers to all that tells how it is; some of these calls change it on their way. */
    private static List<String> lookOver(WhileSheLooks x) {
        List<String> all = new ArrayList<>();
        look(x, all);
        for (int tape = 0; tape < 6; tape++) {
            for (int i : new int[] {0, 1, 2, 3, 4, 59}) {
                all.add("read(" + tape + ", " + i + ") " + x.read(tape, i));
            }
            all.add("item(" + tape + ", 1, 70000) " + x.item(tape, 1, 70000L) + ", " + x.read(tape, 1));
        }
        for (int i = 0; i < 13; i++) {
            all.add("trace(" + i + ") " + x.trace(i));
        }
        all.add("count(5) " + x.count(5));
        // If THE TEXT ends by "far 3", a YARD of 31 comes.
        all.add("count(4) " + x.count(4) + ", feed(1) " + x.feed('1'));
        all.add("yard() " + x.yard() + ", FAR " + x.told(1) + ", YARDS " + x.count(1));
        all.add("since() then " + x.since() + ", looked() " + x.looked());
        all.add("turn() " + x.turn() + ", " + x.turn());
        all.add("undo() " + x.undo());
        look(x, all);
        return all;
    }

    private static void look(WhileSheLooks x, List<String> all) {
        for (int c = 0; c < 7; c++) {
            for (int what = 0; what <= 8; what++) {
                all.add("of(" + c + ", " + what + ") " + x.of(c, what));
            }
        }
        for (int what : new int[] {0, 1, 2, 3, 4, 10, 11, 12, 13}) {
            all.add("told(" + what + ") " + x.told(what));
        }
        for (int what = 0; what <= 3; what++) {
            all.add("count(" + what + ") " + x.count(what));
        }
        for (int part = 0; part < 4; part++) {
            int was = x.row(0, part, 0);
            all.add("row(0, " + part + ", 0) " + was);
            x.row(0, part, was);
        }
        all.add("since() " + x.since() + ", looked() " + x.looked() + ", risks() " + x.risks());
        all.add("first() " + x.first() + ", on(7, 1) " + x.on(7, 1) + ", on(7, 10) " + x.on(7, 10));
    }
}
