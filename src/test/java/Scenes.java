/** Objects in states of many kinds, with some 250 calls at most each. */
final class Scenes {
    private Scenes() {
    }

    static WhileSheLooks nobody() {
        return new WhileSheLooks();
    }

    /** Three CHILDREN, something of everything, nothing full; an IMAGE that is otherwise. */
    static WhileSheLooks some() {
        WhileSheLooks x = withoutActAndText();
        x.act(0, 2, 3);
        Yards.feed(x, "far 3");
        return x;
    }

    static WhileSheLooks withoutActAndText() {
        WhileSheLooks x = Yards.with("wobble 2 c=0;still 1 a>0;far 33;sharp 4;sees 2", 6, 4, 4, 8, 0, 7);
        x.row(0, 0, 5);
        x.row(0, 3, 2);
        Yards.counts(x, 4, 2, 3, 5);
        x.set(2, 0, 20);
        x.see(0, 1, 3);
        x.see(1, 2, 20);
        x.book(2, 30);
        x.turn();
        x.image();
        Yards.read(x, "wobble 3 c=0;far 93;sharp 5;sees 1");
        x.turn();
        x.set(1, 1, 2);
        x.row(0, 1, 7);
        x.counts(2, 6);
        seeWhatComes(x);
        x.book(0, 0);
        x.book(1, 0);
        x.tape(0, 1, 4);
        x.item(0, 2, 31);
        x.tape(1, 0, 3);
        x.item(1, 0, -7);
        x.tape(3, 3, 60);
        x.item(3, 59, 123456789012L);
        x.tape(4, 4, 2);
        x.item(4, 1, 1);
        return x;
    }

    /** Seven CHILDREN, one of each KIND and one at THE WALL; what can be full is. */
    static WhileSheLooks full() {
        WhileSheLooks x = Yards.with("", 0, 8, 1, 2, 2, 5, 3, 4, 4, 8, 5, 7, 6, 9);
        x.image();
        for (String text : new String[] {"far 5", "sharp 1", "sees 0", "far x", "far 6", "far 7",
            "far 44;sees 4;wobble 3 k=6|a>3;still 1 t<2"}) {
            Yards.read(x, text);
        }
        x.set(0, 0, 43);
        x.row(6, 1, 9);
        x.turn();
        x.turn();
        for (int i = 0; i < 4; i++) {
            x.see(i, i, x.on(i, 10 + i));
        }
        for (int i = 0; i < 8; i++) {
            x.book(i < 7 ? i : 0, x.of(i < 7 ? i : 0, 2));
        }
        for (int i = 0; i < 100; i++) {
            x.feed('a' + i % 26);
        }
        return x;
    }

    /** SEEN is three rows that are so by TURN as it is. */
    private static void seeWhatComes(WhileSheLooks x) {
        x.see(-1, 0, 0);
        x.see(0, 1, x.on(1, 10));
        x.see(1, 3, x.on(3, 11));
        x.see(2, 2, x.on(2, 12));
    }

    /** What all is changed to ahead of undo(), with SEEN and the BOOK otherwise, but as many. */
    static void changeAll(WhileSheLooks x) {
        x.child(6, 9);
        x.set(0, 0, 1);
        x.set(0, 1, 4);
        x.set(1, 0, 30);
        x.set(1, 1, 0);
        for (int part = 0; part < 4; part++) {
            x.row(0, part, 9 - part);
            x.row(3, part, 9);
            x.counts(part, 9 - part);
        }
        x.see(-1, 0, 0);
        x.book(-1, 0);
        for (int i = 0; i < 3; i++) {
            x.see(3, i, 50 + i);
            x.book(3, 60 + i);
        }
        for (int i = 0; i < 5; i++) {
            x.turn();
        }
    }

    /** THE TEXT has 100 bytes, and is a YARD; nobody is there. */
    static WhileSheLooks longText() {
        WhileSheLooks x = new WhileSheLooks();
        Yards.feed(x, "far 27;wobble 11 c=1" + "|c=1".repeat(20));
        return x;
    }

    /** Whoever goes on is sent back soon; THE IMAGE is as all is. */
    static WhileSheLooks sentBack() {
        WhileSheLooks x = Yards.with("sharp 1;wobble 5 t>0&a<3", 4, 8, 1, 5, 0, 9, 2, 0);
        Yards.counts(x, 2, 4, 3, 2);
        x.set(3, 0, 33);
        x.turn();
        x.turn();
        x.image();
        return x;
    }

    /** All are at THE WALL, one of them beyond what is FAR now; THE IMAGE is of nobody. */
    static WhileSheLooks atTheWall() {
        WhileSheLooks x = new WhileSheLooks();
        x.image();
        x.child(0, 8);
        x.child(3, 0);
        x.set(0, 0, 39);
        x.set(1, 0, 39);
        x.turn();
        x.turn();
        Yards.read(x, "far 30");
        x.see(0, 0, 40);
        x.tape(0, 1, 2);
        x.item(0, 0, 40);
        x.item(0, 1, 40);
        return x;
    }
}
