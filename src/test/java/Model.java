import java.util.ArrayList;
import java.util.Comparator;
import java.util.List;
import java.util.regex.Matcher;
import java.util.regex.Pattern;

/** The document once more, as slowly and plainly as it can be told: what the class is held against. */
final class Model {
    static final long NO = Long.MIN_VALUE;
    static final int[] ABOVE = {-1, 0, 0, 0, 1, 2, 3};

    /** A CHILD with all that is theirs. */
    static final class Kid {
        int kind;
        int v;
        int at;
        int early = 1;
        int sent;
        boolean wall;
        int[] row = new int[4];

        Kid copy() {
            Kid other = new Kid();
            other.kind = kind;
            other.v = v;
            other.at = at;
            other.early = early;
            other.sent = sent;
            other.wall = wall;
            other.row = row.clone();
            return other;
        }
    }

    static final class World {
        List<Kid> kids = new ArrayList<>();
        int[] counts = {3, 3, 3, 3};
        int turn;
        String yard;
        List<int[]> seen = new ArrayList<>();
        List<int[]> book = new ArrayList<>();

        World copy() {
            World other = new World();
            for (Kid kid : kids) {
                other.kids.add(kid.copy());
            }
            other.counts = counts.clone();
            other.turn = turn;
            other.yard = yard;
            other.seen = new ArrayList<>(seen);
            other.book = new ArrayList<>(book);
            return other;
        }

        int last(String word, int without) {
            int n = without;
            if (yard != null) {
                for (String clause : yard.split(";")) {
                    String[] parts = clause.split(" ");
                    if (parts[0].equals(word)) {
                        n = Integer.parseInt(parts[1]);
                    }
                }
            }
            return n;
        }

        int far() {
            return Math.max(1, last("far", 40));
        }

        int count() {
            return counts[turn % 4];
        }

        int shake(int c) {
            int sum = 0;
            if (yard != null) {
                for (String clause : yard.split(";")) {
                    String[] parts = clause.split(" ");
                    if (parts.length == 3 && holds(parts[2], c)) {
                        sum += Integer.parseInt(parts[1]) * (parts[0].equals("wobble") ? 1 : -1);
                    }
                }
            }
            return sum;
        }

        boolean holds(String e, int c) {
            for (char joint : new char[] {'|', '&'}) {
                int depth = 0;
                for (int i = 0; i < e.length(); i++) {
                    char sign = e.charAt(i);
                    depth += sign == '(' ? 1 : sign == ')' ? -1 : 0;
                    if (sign == joint && depth == 0) {
                        boolean left = holds(e.substring(0, i), c);
                        boolean right = holds(e.substring(i + 1), c);
                        return joint == '|' ? left || right : left && right;
                    }
                }
            }
            if (e.startsWith("!")) {
                return !holds(e.substring(1), c);
            }
            if (e.startsWith("(")) {
                return holds(e.substring(1, e.length() - 1), c);
            }
            Kid kid = kids.get(c);
            int n = Integer.parseInt(e.substring(2));
            int value = switch (e.charAt(0)) {
                case 'c' -> c;
                case 'k' -> kid.kind;
                case 'e' -> kid.early;
                case 'b' -> count();
                case 'a' -> kid.at / 5;
                default -> turn % 10;
            };
            return switch (e.charAt(1)) {
                case '<' -> value < n;
                case '=' -> value == n;
                default -> value > n;
            };
        }

        int pace(int kind, Kid kid) {
            return switch (kind) {
                case 0 -> 2 + kid.v / 3;
                case 1 -> pace(0, kid) + 2;
                case 2 -> pace(0, kid);
                case 3 -> 1 + kid.v / 4;
                case 4 -> 2 * pace(1, kid);
                case 5 -> pace(2, kid) - 1;
                default -> pace(3, kid) + kid.row[turn % 4];
            };
        }

        int goes(int c) {
            Kid kid = kids.get(c);
            return pace(kid.kind, kid) * Math.max(0, count() - kid.early);
        }

        int wobbles(int kind, int c) {
            Kid kid = kids.get(c);
            int w = switch (kind) {
                case 0 -> goes(c) == 0 ? 0 : pace(kid.kind, kid) + shake(c) - 2 * kid.early;
                case 1 -> wobbles(0, c);
                case 2 -> wobbles(0, c) - kid.v;
                case 3 -> Math.min(3, wobbles(0, c));
                case 4 -> wobbles(1, c) + 1;
                case 5 -> kid.early >= 2 ? 0 : wobbles(2, c);
                default -> wobbles(3, c);
            };
            return Math.max(0, w);
        }

        int wobbles(int c) {
            return wobbles(kids.get(c).kind, c);
        }

        int go() {
            return go(last("sees", 9), -1);
        }

        int go(int sees, int held) {
            int sharp = last("sharp", 3);
            List<Integer> goes = new ArrayList<>();
            List<Integer> wobbles = new ArrayList<>();
            for (int c = 0; c < kids.size(); c++) {
                goes.add(c == held ? 0 : goes(c));
                wobbles.add(c == held ? 0 : wobbles(c));
            }
            List<Integer> others = new ArrayList<>();
            for (int c = 0; c < kids.size(); c++) {
                Kid kid = kids.get(c);
                if (kid.wall) {
                    continue;
                }
                kid.at += goes.get(c);
                if (kid.at >= far()) {
                    kid.wall = true;
                    kid.at = far();
                } else {
                    others.add(c);
                }
            }
            others.sort(Comparator.comparingInt((Integer c) -> -kids.get(c).at).thenComparing(c -> c));
            int back = 0;
            for (int c : others.subList(0, Math.min(sees, others.size()))) {
                if (wobbles.get(c) > sharp) {
                    back |= 1 << c;
                }
            }
            for (int c = 0; c < kids.size(); c++) {
                if ((back >> c & 1) == 1) {
                    kids.get(c).at = 0;
                    kids.get(c).sent++;
                }
            }
            turn++;
            return back;
        }

        World behind(int n) {
            World later = copy();
            for (int i = 0; i < n; i++) {
                later.go();
            }
            return later;
        }

        int wall() {
            int bits = 0;
            for (int c = 0; c < kids.size(); c++) {
                bits |= kids.get(c).wall ? 1 << c : 0;
            }
            return bits;
        }

        int there() {
            return Integer.bitCount(wall());
        }

        int touches(int c) {
            World later = copy();
            for (int n = 0; n <= 60; n++) {
                if (later.kids.get(c).wall) {
                    return n;
                }
                later.go();
            }
            return -5;
        }
    }

    World w = new World();
    World image;
    String text = "";
    List<String> yards = new ArrayList<>();
    List<Integer> trace = new ArrayList<>();
    long[][] tapes = new long[6][];
    int[] sorts = {-1, -1, -1, -1, -1, -1};

    private boolean has(int c) {
        return c >= 0 && c < w.kids.size();
    }

    int child(int kind, int v) {
        if (kind < 0 || kind > 6) return -1;
        if (v < 0 || v > 9) return -2;
        if (w.kids.size() == 7) return -4;
        Kid kid = new Kid();
        kid.kind = kind;
        kid.v = v;
        w.kids.add(kid);
        return w.kids.size() - 1;
    }

    int of(int c, int what) {
        if (!has(c)) return -1;
        Kid kid = w.kids.get(c);
        return switch (what) {
            case 0 -> kid.kind;
            case 1 -> kid.v;
            case 2 -> kid.at;
            case 3 -> kid.early;
            case 4 -> kid.sent;
            case 5 -> kid.wall ? 1 : 0;
            case 6 -> w.pace(kid.kind, kid);
            case 7 -> w.goes(c);
            case 8 -> w.wobbles(c);
            default -> -1;
        };
    }

    int set(int c, int what, int n) {
        if (!has(c) || what < 0 || what > 1) return -1;
        if (n < 0 || n > (what == 0 ? w.far() - 1 : 9)) return -2;
        Kid kid = w.kids.get(c);
        int was = what == 0 ? kid.at : kid.early;
        if (what == 0) {
            kid.at = n;
            kid.wall = false;
        } else {
            kid.early = n;
        }
        return was;
    }

    int row(int c, int part, int n) {
        if (!has(c) || part < 0 || part > 3) return -1;
        if (n < 0 || n > 9) return -2;
        Kid kid = w.kids.get(c);
        if (kid.kind != 6) return -3;
        int was = kid.row[part];
        kid.row[part] = n;
        return was;
    }

    int counts(int k, int n) {
        if (k < 0 || k > 3) return -1;
        if (n < 1 || n > 9) return -2;
        int was = w.counts[k];
        w.counts[k] = n;
        return was;
    }

    int feed(int sign) {
        if (sign < 0 || sign > 127) return -2;
        if (text.length() == 100) return -4;
        text += (char) sign;
        return text.length();
    }

    static final Pattern GRAMMAR = Pattern.compile(grammar());

    private static String grammar() {
        String test = "[ckebat][<=>][0-9][0-9]?";
        String part = test;
        for (int around = 3; around >= 0; around--) {
            String both = "(?:" + part + ")(?:&(?:" + part + "))*";
            String either = both + "(?:\\|" + both + ")*";
            part = test + "|!(?:" + part + ")|\\((?:" + either + ")\\)";
        }
        String both = "(?:" + part + ")(?:&(?:" + part + "))*";
        String either = both + "(?:\\|" + both + ")*";
        String clause = "(?:(?:wobble|still) [0-9][0-9]? " + either
            + "|(?:far|sharp|sees) [0-9][0-9]?)";
        return "(?s)" + clause + "(?:;" + clause + "){0,9}";
    }

    /** -1, or the least place up to which no YARD begins so. */
    static int fault(String text) {
        if (GRAMMAR.matcher(text).matches()) {
            return -1;
        }
        for (int length = 1; length <= text.length(); length++) {
            Matcher m = GRAMMAR.matcher(text.substring(0, length));
            if (!m.matches() && !m.hitEnd()) {
                return length - 1;
            }
        }
        return text.length();
    }

    int yard() {
        if (yards.size() == 6) return -4;
        String read = text;
        text = "";
        int fault = fault(read);
        if (fault >= 0) return -10 - fault;
        yards.add(read);
        w.yard = read;
        return yards.size() - 1;
    }

    int told(int what) {
        return switch (what) {
            case 0 -> w.turn;
            case 1 -> w.far();
            case 2 -> w.last("sharp", 3);
            case 3 -> w.last("sees", 9);
            case 4 -> w.wall();
            case 10, 11, 12, 13 -> w.counts[what - 10];
            default -> -1;
        };
    }

    int turn() {
        return w.turn == 9999 ? -3 : w.go();
    }

    int on(int n, int what) {
        if (what != 0 && what != 1 && (what < 10 || what > 16 || !has(what - 10))) return -1;
        if (n < 0 || n > 40) return -2;
        if (what == 1) {
            World later = w.copy();
            int back = 0;
            for (int i = 0; i < n; i++) {
                back |= later.go();
            }
            return back;
        }
        World later = w.behind(n);
        return what == 0 ? later.there() : later.kids.get(what - 10).at;
    }

    int touches(int c) {
        return has(c) ? w.touches(c) : -1;
    }

    int first() {
        int best = -5;
        int fewest = 61;
        for (int c = 0; c < w.kids.size(); c++) {
            int t = w.touches(c);
            if (!w.kids.get(c).wall && t >= 0 && t < fewest) {
                fewest = t;
                best = c;
            }
        }
        return best;
    }

    int risks() {
        int bits = 0;
        for (int c = 0; c < w.kids.size(); c++) {
            bits |= !w.kids.get(c).wall && w.wobbles(c) > w.last("sharp", 3) ? 1 << c : 0;
        }
        return bits;
    }

    int stands(int c) {
        if (!has(c)) return -1;
        int best = -5;
        int fewest = 61;
        for (int early = 9; early >= 0; early--) {
            World other = w.copy();
            other.kids.get(c).early = early;
            int t = other.touches(c);
            if (t >= 0 && t < fewest) {
                fewest = t;
                best = early;
            }
        }
        return best;
    }

    int slow(int n, int what) {
        if (what != 0 && what != 1) return -1;
        if (n < 1 || n > 20) return -2;
        int best = 0;
        int fewest = 99;
        for (int count = 9; count >= 1; count--) {
            World other = w.copy();
            other.counts = new int[] {count, count, count, count};
            int there = other.behind(n).there();
            if (there < fewest) {
                fewest = there;
                best = count;
            }
        }
        return what == 0 ? best : fewest;
    }

    int order(int n, int k) {
        if (k < -1 || k > 3) return -1;
        if (n < 1 || n > 20) return -2;
        int fewest = 99;
        int[] best = null;
        for (int a = 0; a < 4; a++) {
            for (int b = 0; b < 4; b++) {
                for (int c = 0; c < 4; c++) {
                    for (int d = 0; d < 4; d++) {
                        if (a == b || a == c || a == d || b == c || b == d || c == d) {
                            continue;
                        }
                        World other = w.copy();
                        other.counts = new int[] {w.counts[a], w.counts[b], w.counts[c], w.counts[d]};
                        int there = other.behind(n).there();
                        if (there < fewest) {
                            fewest = there;
                            best = other.counts;
                        }
                    }
                }
            }
        }
        return k == -1 ? fewest : best[k];
    }

    int look(int n) {
        if (n < 1 || n > 20) return -2;
        for (int sees = 0; sees <= 9; sees++) {
            World other = w.copy();
            for (int i = 0; i < n; i++) {
                other.go(sees, -1);
            }
            if (other.there() == w.there()) return sees;
        }
        return -5;
    }

    int needs(int c, int n) {
        if (!has(c)) return -1;
        if (n < 1 || n > 8) return -2;
        for (int at = 0; at < w.far(); at++) {
            World other = w.copy();
            other.kids.get(c).at = at;
            other.kids.get(c).wall = false;
            if (other.behind(n).kids.get(c).wall) return at;
        }
        return -5;
    }

    int held(int c, int n) {
        if (!has(c)) return -1;
        if (n < 1 || n > 20) return -2;
        int best = 0;
        int most = -1;
        for (int k = 0; k <= n; k++) {
            World other = w.copy();
            for (int i = 0; i < n; i++) {
                other.go(other.last("sees", 9), i < k ? c : -1);
            }
            if (other.kids.get(c).at > most) {
                most = other.kids.get(c).at;
                best = k;
            }
        }
        return best;
    }

    int shield(int one, int other, int n) {
        if (!has(one) || !has(other)) return -1001;
        if (one == other || n < 1 || n > 20) return -1002;
        World without = w.copy();
        without.kids.get(other).wall = true;
        return w.behind(n).kids.get(one).at - without.behind(n).kids.get(one).at;
    }

    int see(int c, int n, int at) {
        if (c == -1) {
            w.seen.clear();
            return 0;
        }
        if (!has(c)) return -1;
        if (n < 0 || n > 20 || at < 0 || at > 99) return -2;
        if (w.seen.size() == 4) return -4;
        w.seen.add(new int[] {c, n, at});
        return w.seen.size();
    }

    int since() {
        int bits = 0;
        for (int k = 0; k < 4; k++) {
            World other = w.copy();
            other.turn += k;
            boolean all = true;
            for (int[] row : w.seen) {
                all &= other.behind(row[1]).kids.get(row[0]).at == row[2];
            }
            bits |= all ? 1 << k : 0;
        }
        return bits;
    }

    int who(int n, int h) {
        if (n < 0 || n > 20 || h < 0 || h > 99) return -2;
        int bits = 0;
        World later = w.behind(n);
        for (int c = 0; c < w.kids.size(); c++) {
            bits |= later.kids.get(c).at == h ? 1 << c : 0;
        }
        return bits;
    }

    private static long fraction(int above, int below, int part) {
        int d = below;
        while (above % d != 0 || below % d != 0) {
            d--;
        }
        return part == 0 ? above / d : below / d;
    }

    long odds(int n, int part) {
        if (n < 1 || n > 20 || part < 0 || part > 1) return NO;
        int calm = 0;
        for (int k = 0; k < 4; k++) {
            World other = w.copy();
            other.turn += k;
            boolean any = false;
            for (int i = 0; i < n; i++) {
                any |= other.go() != 0;
            }
            calm += any ? 0 : 1;
        }
        return fraction(calm, 4, part);
    }

    long mean(int n, int part) {
        if (n < 0 || n > 40 || part < 0 || part > 1 || w.kids.isEmpty()) return NO;
        int sum = 0;
        for (Kid kid : w.behind(n).kids) {
            sum += kid.at;
        }
        return fraction(sum, w.kids.size(), part);
    }

    int book(int c, int at) {
        if (c == -1) {
            w.book.clear();
            return 0;
        }
        if (!has(c)) return -1;
        if (at < 0 || at > 99) return -2;
        if (w.book.size() == 8) return -4;
        w.book.add(new int[] {c, at});
        return w.book.size();
    }

    int looked() {
        for (int i = 0; i < w.book.size(); i++) {
            if (w.kids.get(w.book.get(i)[0]).at != w.book.get(i)[1]) return i;
        }
        return -5;
    }

    private boolean noTape(int tape) {
        return tape < 0 || tape > 5;
    }

    int judge(int tape, int i) {
        if (noTape(tape)) return -1;
        if (sorts[tape] != -1 && sorts[tape] != 1) return -12;
        for (int c = 0; c < w.kids.size(); c++) {
            long place = (long) i + c;
            if (i < 0 || tapes[tape] == null || place >= tapes[tape].length) return 100 + c;
            if (tapes[tape][(int) place] != w.kids.get(c).at) return c;
        }
        return -5;
    }

    int image() {
        image = w.copy();
        return image.kids.size();
    }

    int undo() {
        if (image == null) return -3;
        w = image.copy();
        return w.kids.size();
    }

    int act(int c, int act, int x) {
        trace.clear();
        if (!has(c) || act < 0 || act > 2) return 0;
        return run(c, w.kids.get(c).kind, act, x);
    }

    /** The body of an ACT of the KIND, or of the next above that has one. */
    private int run(int c, int from, int act, int x) {
        int own = w.kids.get(c).kind;
        int v = w.kids.get(c).v;
        int body = body(from, act);
        while (body == 0) {
            from = ABOVE[from];
            body = body(from, act);
        }
        trace.add(body);
        int up = ABOVE[from];
        return switch (body) {
            case 10 -> x + c;
            case 11 -> run(c, own, 0, x) - v;
            case 12 -> run(c, own, 1, x) * 2;
            case 20 -> run(c, up, 1, x) ^ 6;
            case 30 -> run(c, up, 0, x * 3);
            case 40 -> run(c, up, 2, x) + run(c, own, 1, 1);
            case 50 -> -run(c, up, 0, x);
            case 51 -> run(c, up, 1, x + 1);
            case 60 -> run(c, up, 2, x - c);
            case 70 -> run(c, up, 1, x) + run(c, up, 0, 2);
            default -> run(c, up, 0, x) ^ v;
        };
    }

    private static int body(int kind, int act) {
        int[][] bodies = {{10, 11, 12}, {0, 20, 0}, {30, 0, 0}, {0, 0, 40}, {50, 51, 0}, {0, 0, 60},
            {71, 70, 0}};
        return bodies[kind][act];
    }

    int trace(int i) {
        return i < 0 || i >= 20 || i >= trace.size() ? -1 : trace.get(i);
    }

    int taken(int c, int k) {
        if (k < 0 || k > 6) return -2;
        if (!has(c)) return -11;
        for (int kind = w.kids.get(c).kind; kind >= 0; kind = ABOVE[kind]) {
            if (kind == k) return w.kids.get(c).kind;
        }
        return -12;
    }

    int count(int what) {
        return switch (what) {
            case 0 -> w.kids.size();
            case 1 -> yards.size();
            case 2 -> w.seen.size();
            case 3 -> w.book.size();
            case 4 -> text.length();
            case 5 -> trace.size();
            default -> -2;
        };
    }

    int tape(int tape, int sort, int n) {
        if (noTape(tape)) return -1;
        if (sort < -1 || sort > 4 || (sort >= 0 && n > 60)) return -2;
        if (sort >= 0 && n < 0) return -14;
        sorts[tape] = sort;
        tapes[tape] = sort < 0 ? null : new long[n];
        return 1;
    }

    int item(int tape, int i, long v) {
        if (noTape(tape)) return -1;
        if (tapes[tape] == null) return -11;
        if (i < 0 || i >= tapes[tape].length) return -13;
        tapes[tape][i] = switch (sorts[tape]) {
            case 0 -> (byte) v;
            case 1 -> (short) v;
            case 2 -> (int) v;
            case 3 -> v;
            default -> v == 0 ? 0 : 1;
        };
        return 1;
    }

    long read(int tape, int i) {
        if (noTape(tape) || tapes[tape] == null || i < 0 || i >= tapes[tape].length) return NO;
        return tapes[tape][i];
    }

    int shift(int tape, int i, int other, int j, int n) {
        if (noTape(tape) || noTape(other)) return -1;
        if (tapes[tape] == null || tapes[other] == null) return -11;
        if (sorts[tape] != sorts[other]) return -12;
        if (n < 0 || i < 0 || j < 0 || (long) i + n > tapes[tape].length
            || (long) j + n > tapes[other].length) return -13;
        long[] before = tapes[tape].clone();
        for (int k = 0; k < n; k++) {
            tapes[other][j + k] = before[i + k];
        }
        return n;
    }
}
