import java.util.Random;

/**
 * "All that follows is asked, goes on from how all is": each answer is what comes, turn() by turn(), of another
 * object that was made as all would be then.
 */
public final class AheadTest {
    private static final int STARTS = 300;
    private static final long NO = WhileSheLooks.NO;
    private static final Due DUE = new Due("AheadTest");

    private final int number;
    private final Random by;
    private final Start start;
    private final int size;
    private final WhileSheLooks x;

    private AheadTest(int number) {
        this.number = number;
        by = new Random(number);
        start = Start.byChance(by);
        size = start.kind.length;
        x = start.made();
    }

    public static void main(String[] args) {
        for (int i = 0; i < STARTS; i++) {
            AheadTest one = new AheadTest(i);
            one.asMade();
            one.on();
            one.touches();
            one.stands();
            one.slow();
            one.order();
            one.look();
            one.needs();
            one.held();
            one.shield();
            one.since();
            one.who();
            one.odds();
            one.mean();
        }
        DUE.end();
    }

    private void due(String call, long got, long want) {
        DUE.is("start " + number + ": " + call, got, want);
    }

    private int from1To(int most) {
        return 1 + by.nextInt(most);
    }

    private static WhileSheLooks behind(Start s, int n) {
        WhileSheLooks later = s.made();
        for (int i = 0; i < n; i++) {
            later.turn();
        }
        return later;
    }

    private static int there(Start s, int n) {
        return Integer.bitCount(behind(s, n).told(4));
    }

    private static int sentBack(Start s, int n) {
        WhileSheLooks later = s.made();
        int back = 0;
        for (int i = 0; i < n; i++) {
            back |= later.turn();
        }
        return back;
    }

    private static int touches(Start s, int c) {
        WhileSheLooks later = s.made();
        for (int n = 0; n <= 60; n++) {
            if (later.of(c, 5) == 1) {
                return n;
            }
            later.turn();
        }
        return -5;
    }

    private void asMade() {
        due("TURN", x.told(0), start.turn);
        due("FAR", x.told(1), start.far);
        due("SHARP", x.told(2), start.sharp);
        due("SEES", x.told(3), start.sees);
        due("who is at THE WALL", x.told(4), start.wall);
        for (int c = 0; c < size; c++) {
            due("AT of " + c, x.of(c, 2), start.isAtWall(c) ? start.wallAt : start.at[c]);
            due("EARLY of " + c, x.of(c, 3), start.early[c]);
        }
    }

    private void on() {
        int n = by.nextInt(41);
        WhileSheLooks later = behind(start, n);
        due("on(" + n + ", 0)", x.on(n, 0), Integer.bitCount(later.told(4)));
        due("on(" + n + ", 1)", x.on(n, 1), sentBack(start, n));
        for (int c = 0; c < size; c++) {
            due("on(" + n + ", 10 + " + c + ")", x.on(n, 10 + c), later.of(c, 2));
        }
    }

    private void touches() {
        int first = -5;
        int fewest = 61;
        for (int c = 0; c < size; c++) {
            int n = touches(start, c);
            due("touches(" + c + ")", x.touches(c), n);
            if (!start.isAtWall(c) && n >= 0 && n < fewest) {
                fewest = n;
                first = c;
            }
        }
        due("first()", x.first(), first);
    }

    private void stands() {
        int c = by.nextInt(size);
        int best = -5;
        int fewest = 61;
        for (int early = 9; early >= 0; early--) {
            Start other = start.copy();
            other.early[c] = early;
            int n = touches(other, c);
            if (n >= 0 && n < fewest) {
                fewest = n;
                best = early;
            }
        }
        due("stands(" + c + ")", x.stands(c), best);
    }

    private void slow() {
        int n = from1To(20);
        int best = 0;
        int fewest = 8;
        for (int count = 9; count >= 1; count--) {
            Start other = start.copy();
            other.counts = new int[] {count, count, count, count};
            int there = there(other, n);
            if (there < fewest) {
                fewest = there;
                best = count;
            }
        }
        due("slow(" + n + ", 0)", x.slow(n, 0), best);
        due("slow(" + n + ", 1)", x.slow(n, 1), fewest);
    }

    private void order() {
        int n = from1To(12);
        int[] best = null;
        int fewest = 8;
        for (int row = 0; row < 10000; row++) {
            int[] places = {row / 1000, row / 100 % 10, row / 10 % 10, row % 10};
            if ((1 << places[0] | 1 << places[1] | 1 << places[2] | 1 << places[3]) != 15) {
                continue;
            }
            Start other = start.copy();
            for (int k = 0; k < 4; k++) {
                other.counts[k] = start.counts[places[k]];
            }
            int there = there(other, n);
            if (there < fewest) {
                fewest = there;
                best = other.counts;
            }
        }
        due("order(" + n + ", -1)", x.order(n, -1), fewest);
        for (int k = 0; k < 4; k++) {
            due("order(" + n + ", " + k + ")", x.order(n, k), best[k]);
        }
    }

    private void look() {
        int n = from1To(20);
        int least = -5;
        for (int sees = 9; sees >= 0; sees--) {
            Start other = start.copy();
            other.sees = sees;
            least = there(other, n) == Integer.bitCount(start.wall) ? sees : least;
        }
        due("look(" + n + ")", x.look(n), least);
    }

    private void needs() {
        int n = from1To(8);
        int c = by.nextInt(size);
        int least = -5;
        for (int at = 0; at < start.far && least < 0; at++) {
            Start other = start.copy();
            other.wall &= ~(1 << c);
            other.at[c] = at;
            least = behind(other, n).of(c, 5) == 1 ? at : least;
        }
        due("needs(" + c + ", " + n + ")", x.needs(c, n), least);
    }

    /** One who stands by EARLY 9 GOES 0, and WOBBLES 1 at most, which is never more than SHARP here. */
    private int atIfHeld(int c, int k, int n) {
        WhileSheLooks later = start.made();
        later.set(c, 1, 9);
        for (int i = 0; i < n; i++) {
            if (i == k) {
                later.set(c, 1, start.early[c]);
            }
            later.turn();
        }
        return later.of(c, 2);
    }

    private void held() {
        int n = from1To(20);
        int c = by.nextInt(size);
        int best = 0;
        for (int k = 1; k <= n; k++) {
            best = atIfHeld(c, k, n) > atIfHeld(c, best, n) ? k : best;
        }
        due("held(" + c + ", " + n + ")", x.held(c, n), best);
    }

    private void shield() {
        int n = from1To(20);
        for (int other = 0; other < size; other++) {
            Start there = start.copy();
            there.wall |= 1 << other;
            for (int c = 0; c < size; c++) {
                if (c != other) {
                    due("shield(" + c + ", " + other + ", " + n + ")", x.shield(c, other, n),
                        behind(start, n).of(c, 2) - behind(there, n).of(c, 2));
                }
            }
        }
    }

    private Start turnMore(int k) {
        Start other = start.copy();
        other.turn += k;
        return other;
    }

    private void since() {
        int k = by.nextInt(4);
        int bits = 15;
        for (int row = 0; row < 2; row++) {
            int c = by.nextInt(size);
            int n = by.nextInt(21);
            int at = behind(turnMore(k), n).of(c, 2);
            due("see", x.see(c, n, at), row + 1);
            for (int each = 0; each < 4; each++) {
                bits &= behind(turnMore(each), n).of(c, 2) == at ? 15 : ~(1 << each);
            }
            due("since()", x.since(), bits);
        }
    }

    private void who() {
        int n = by.nextInt(21);
        WhileSheLooks later = behind(start, n);
        int h = later.of(by.nextInt(size), 2);
        int bits = 0;
        for (int c = 0; c < size; c++) {
            bits |= later.of(c, 2) == h ? 1 << c : 0;
        }
        due("who(" + n + ", " + h + ")", x.who(n, h), bits);
    }

    private void odds() {
        int n = by.nextInt(3) == 0 ? from1To(20) : from1To(3);
        int calm = 0;
        for (int k = 0; k < 4; k++) {
            calm += sentBack(turnMore(k), n) == 0 ? 1 : 0;
        }
        long[][] lowest = {{0, 1}, {1, 4}, {1, 2}, {3, 4}, {1, 1}};
        due("odds(" + n + ", 0)", x.odds(n, 0), lowest[calm][0]);
        due("odds(" + n + ", 1)", x.odds(n, 1), lowest[calm][1]);
    }

    private void mean() {
        int n = by.nextInt(41);
        WhileSheLooks later = behind(start, n);
        long together = 0;
        for (int c = 0; c < size; c++) {
            together += later.of(c, 2);
        }
        long above = x.mean(n, 0);
        long below = x.mean(n, 1);
        due("mean(" + n + ", ..)", above == NO || below <= 0 ? NO : above * size, together * below);
        for (int d = 2; d <= size; d++) {
            due("lowest terms: by " + d, above % d == 0 && below % d == 0 ? 1 : 0, 0);
        }
    }
}
