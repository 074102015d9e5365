import java.util.Random;

/** How all is, told so that it can be made once more, or otherwise in one thing. */
final class Start {
    int[] kind;
    int[] v;
    int[] early;
    int[] at;
    int[][] rows;
    int[] counts = new int[4];
    /** 1 at least: who is at THE WALL comes there by a TURN. */
    int turn;
    String shakes = "";
    int far;
    int sharp;
    int sees;
    /** Who is at THE WALL, as bits, and AT of them, which need not be FAR. */
    int wall;
    int wallAt;

    private Start(int children) {
        kind = new int[children];
        v = new int[children];
        early = new int[children];
        at = new int[children];
        rows = new int[children][4];
    }

    /** SHARP is 1 at least here, so that one who stands is never sent back. */
    static Start byChance(Random by) {
        Start s = new Start(1 + by.nextInt(7));
        s.far = by.nextInt(6) == 0 ? 1 + by.nextInt(99) : 20 + by.nextInt(45);
        s.sharp = 1 + by.nextInt(6);
        s.sees = by.nextInt(4) == 0 ? 9 : by.nextInt(5);
        s.turn = 1 + by.nextInt(12);
        s.wallAt = by.nextBoolean() ? s.far : 1 + by.nextInt(99);
        for (int k = 0; k < 4; k++) {
            s.counts[k] = 1 + by.nextInt(by.nextInt(4) == 0 ? 9 : 4);
        }
        for (int c = 0; c < s.kind.length; c++) {
            s.kind[c] = by.nextInt(7);
            s.v[c] = by.nextInt(10);
            s.early[c] = by.nextInt(4) == 0 ? by.nextInt(10) : by.nextInt(3);
            s.at[c] = by.nextInt(by.nextBoolean() ? s.far : 1 + s.far / 3);
            s.wall |= by.nextInt(5) == 0 ? 1 << c : 0;
            for (int part = 0; part < 4 && s.kind[c] == 6; part++) {
                s.rows[c][part] = by.nextInt(by.nextInt(5) == 0 ? 10 : 4);
            }
        }
        for (int i = by.nextInt(3); i > 0; i--) {
            s.shakes += (by.nextInt(3) == 0 ? "still " : "wobble ") + by.nextInt(9) + " " + part(by)
                + (by.nextBoolean() ? "" : (by.nextBoolean() ? "&" : "|") + part(by)) + ";";
        }
        return s;
    }

    private static String part(Random by) {
        return (by.nextInt(4) == 0 ? "!" : "") + "ckebat".charAt(by.nextInt(6)) + "<=>".charAt(by.nextInt(3))
            + by.nextInt(6);
    }

    Start copy() {
        Start other = new Start(kind.length);
        other.kind = kind.clone();
        other.v = v.clone();
        other.early = early.clone();
        other.at = at.clone();
        for (int c = 0; c < rows.length; c++) {
            other.rows[c] = rows[c].clone();
        }
        other.counts = counts.clone();
        other.turn = turn;
        other.shakes = shakes;
        other.far = far;
        other.sharp = sharp;
        other.sees = sees;
        other.wall = wall;
        other.wallAt = wallAt;
        return other;
    }

    boolean isAtWall(int c) {
        return (wall >> c & 1) == 1;
    }

    WhileSheLooks made() {
        WhileSheLooks x = new WhileSheLooks();
        for (int i = 1; i < turn; i++) {
            x.turn();
        }
        Yards.read(x, "far " + wallAt);
        for (int c = 0; c < kind.length; c++) {
            x.child(kind[c], v[c]);
            x.set(c, 1, isAtWall(c) ? 0 : 9);
            x.set(c, 0, isAtWall(c) ? wallAt - 1 : 0);
        }
        x.turn();
        Yards.read(x, shakes + "far " + far + ";sharp " + sharp + ";sees " + sees);
        Yards.counts(x, counts[0], counts[1], counts[2], counts[3]);
        for (int c = 0; c < kind.length; c++) {
            x.set(c, 1, early[c]);
            if (!isAtWall(c)) {
                x.set(c, 0, at[c]);
            }
            for (int part = 0; part < 4 && kind[c] == 6; part++) {
                x.row(c, part, rows[c][part]);
            }
        }
        return x;
    }
}
