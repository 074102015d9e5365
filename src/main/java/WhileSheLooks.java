/**
 * Not while she looks: children go on toward a wall while one counts there, and must stand when she
 * turns. ../shared/DOC.md says what each call answers.
 */
public final class WhileSheLooks {
    public static final int NONE = -1, BAD = -2, STATE = -3, FULL = -4;
    public static final long NO = Long.MIN_VALUE;

    private static final int NOTHING = -11, CAST = -12, PLACE = -13, SIZE = -14;
    private static final int NEVER = -5, NOBODY = -1;
    private static final int NO_CHILD_TO_SHIELD = -1001, BAD_SHIELD = -1002;
    private static final int FAULT_BASE = -10, ROW_ENDS = 100, ON_AT = 10, TOLD_COUNT = 10;

    private static final int MOST_CHILDREN = 7, MOST_YARDS = 6, MOST_BYTES = 100;
    private static final int MOST_SEEN = 4, MOST_BOOK = 8, LAST_TURN = 9999;
    private static final int MOST_TOUCHES = 60, MOST_NUMBER = 9, MOST_AT = 99, PLACES = 4;

    private static final int KINDS = 7, TOLD_KIND = 6;
    /** The KIND above each KIND; -1 above CHILD. */
    private static final int[] KIND_ABOVE = {-1, 0, 0, 0, 1, 2, 3};

    private static final int TAPES = 6, MOST_ITEMS = 60, HOLDS_NOTHING = -1;
    private static final int BYTES = 0, SHORTS = 1, INTS = 2, LONGS = 3, BOOLEANS = 4;

    private final Child[] kinds;
    private final byte[] text;
    private int textLength;
    /** The first is the one without CLAUSES, which holds while none has been read. */
    private final Yard[] yards;
    private int yardCount;
    private final Scene now;
    /** What is asked is played here, so that nothing changes. */
    private final Scene ahead;
    private final Scene kept;
    private boolean hasImage;
    private final Turns turns;
    private final Acts acts;
    private final long[][] tapeItems;
    private final int[] tapeSort;
    private final int[] tapeSize;

    public WhileSheLooks() {
        kinds = new Child[] {new Child(), new Quick(), new Steady(), new Small(), new Reckless(),
            new Careful(), new Told()};
        text = new byte[MOST_BYTES];
        yards = new Yard[MOST_YARDS + 1];
        for (int i = 0; i <= MOST_YARDS; i++) {
            yards[i] = new Yard(text);
        }
        now = new Scene(yards[0]);
        ahead = new Scene(yards[0]);
        kept = new Scene(yards[0]);
        turns = new Turns(kinds);
        acts = new Acts();
        tapeItems = new long[TAPES][MOST_ITEMS];
        tapeSort = new int[TAPES];
        tapeSize = new int[TAPES];
        for (int i = 0; i < TAPES; i++) {
            tapeSort[i] = HOLDS_NOTHING;
        }
    }

    // ---- children, yards, counts

    public int child(int kind, int v) {
        if (!within(kind, 0, KINDS - 1)) {
            return NONE;
        }
        if (!within(v, 0, MOST_NUMBER)) {
            return BAD;
        }
        if (now.size >= MOST_CHILDREN) {
            return FULL;
        }
        return now.addChild(kind, v);
    }

    public int of(int child, int what) {
        if (!now.has(child)) {
            return NONE;
        }
        turns.foresee(now);
        switch (what) {
            case 0: return now.kind[child];
            case 1: return now.v[child];
            case 2: return now.at[child];
            case 3: return now.early[child];
            case 4: return now.sent[child];
            case 5: return now.isAtWall(child) ? 1 : 0;
            case 6: return turns.pace[child];
            case 7: return turns.goes[child];
            case 8: return turns.wobbles[child];
            default: return NONE;
        }
    }

    public int set(int child, int what, int n) {
        if (!now.has(child) || !within(what, 0, 1)) {
            return NONE;
        }
        if (!within(n, 0, what == 0 ? now.yard.far - 1 : MOST_NUMBER)) {
            return BAD;
        }
        if (what == 0) {
            int was = now.at[child];
            now.putOnTheWay(child, n);
            return was;
        }
        int was = now.early[child];
        now.early[child] = n;
        return was;
    }

    public int row(int child, int part, int n) {
        if (!now.has(child) || !within(part, 0, PLACES - 1)) {
            return NONE;
        }
        if (!within(n, 0, MOST_NUMBER)) {
            return BAD;
        }
        if (now.kind[child] != TOLD_KIND) {
            return STATE;
        }
        int was = now.rows[child * PLACES + part];
        now.rows[child * PLACES + part] = n;
        return was;
    }

    public int counts(int k, int n) {
        if (!within(k, 0, PLACES - 1)) {
            return NONE;
        }
        if (!within(n, 1, MOST_NUMBER)) {
            return BAD;
        }
        int was = now.herCounts[k];
        now.herCounts[k] = n;
        return was;
    }

    public int feed(int sign) {
        if (!within(sign, 0, 127)) {
            return BAD;
        }
        if (textLength >= MOST_BYTES) {
            return FULL;
        }
        text[textLength] = (byte) sign;
        textLength++;
        return textLength;
    }

    public int yard() {
        if (yardCount >= MOST_YARDS) {
            return FULL;
        }
        Yard next = yards[yardCount + 1];
        int fault = next.faultOf(textLength);
        textLength = 0;
        if (fault != Yard.NO_FAULT) {
            return FAULT_BASE - fault;
        }
        now.yard = next;
        yardCount++;
        return yardCount - 1;
    }

    public int told(int what) {
        switch (what) {
            case 0: return now.turn;
            case 1: return now.yard.far;
            case 2: return now.yard.sharp;
            case 3: return now.yard.sees;
            case 4: return now.wall;
            default: break;
        }
        if (!within(what, TOLD_COUNT, TOLD_COUNT + PLACES - 1)) {
            return NONE;
        }
        return now.herCounts[what - TOLD_COUNT];
    }

    // ---- turns

    public int turn() {
        if (now.turn >= LAST_TURN) {
            return STATE;
        }
        return turns.pass(now, 1);
    }

    public int on(int n, int what) {
        boolean ofOne = within(what, ON_AT, ON_AT + MOST_CHILDREN - 1) && now.has(what - ON_AT);
        if (!ofOne && !within(what, 0, 1)) {
            return NONE;
        }
        if (!within(n, 0, 40)) {
            return BAD;
        }
        ahead.copyFrom(now);
        int back = turns.pass(ahead, n);
        if (ofOne) {
            return ahead.at[what - ON_AT];
        }
        return what == 0 ? Integer.bitCount(ahead.wall) : back;
    }

    public int touches(int child) {
        if (!now.has(child)) {
            return NONE;
        }
        ahead.copyFrom(now);
        return turns.untilWall(ahead, 1 << child);
    }

    public int first() {
        int others = now.everybody() & ~now.wall;
        ahead.copyFrom(now);
        if (others == 0 || turns.untilWall(ahead, others) == NEVER) {
            return NEVER;
        }
        int child = 0;
        while (child < ahead.size - 1 && (ahead.wall & others & (1 << child)) == 0) {
            child++;
        }
        return child;
    }

    public int risks() {
        turns.foresee(now);
        int bits = 0;
        for (int c = 0; c < now.size; c++) {
            if (!now.isAtWall(c) && turns.wobbles[c] > now.yard.sharp) {
                bits |= 1 << c;
            }
        }
        return bits;
    }

    // ---- what is best

    public int stands(int child) {
        if (!now.has(child)) {
            return NONE;
        }
        int best = NEVER;
        int fewest = MOST_TOUCHES;
        for (int early = 0; early <= MOST_NUMBER; early++) {
            ahead.copyFrom(now);
            ahead.early[child] = early;
            int touches = turns.untilWall(ahead, 1 << child);
            if (touches != NEVER && touches <= fewest) {
                fewest = touches;
                best = early;
            }
        }
        return best;
    }

    public int slow(int n, int what) {
        if (!within(what, 0, 1)) {
            return NONE;
        }
        if (!within(n, 1, 20)) {
            return BAD;
        }
        int best = 0;
        int fewest = MOST_CHILDREN;
        for (int count = 1; count <= MOST_NUMBER; count++) {
            ahead.copyFrom(now);
            for (int k = 0; k < PLACES; k++) {
                ahead.herCounts[k] = count;
            }
            turns.pass(ahead, n);
            int there = Integer.bitCount(ahead.wall);
            if (there <= fewest) {
                fewest = there;
                best = count;
            }
        }
        return what == 0 ? best : fewest;
    }

    public int order(int n, int k) {
        if (!within(k, -1, PLACES - 1)) {
            return NONE;
        }
        if (!within(n, 1, 20)) {
            return BAD;
        }
        int best = 0;
        int fewest = MOST_CHILDREN + 1;
        // A code holds four places of two bits each, the first place highest: codes that grow are rows
        // that come later.
        for (int code = 0; code < 256; code++) {
            if (!namesEachPlace(code)) {
                continue;
            }
            ahead.copyFrom(now);
            for (int i = 0; i < PLACES; i++) {
                ahead.herCounts[i] = now.herCounts[placeIn(code, i)];
            }
            turns.pass(ahead, n);
            int there = Integer.bitCount(ahead.wall);
            if (there < fewest) {
                fewest = there;
                best = code;
            }
        }
        return k < 0 ? fewest : now.herCounts[placeIn(best, k)];
    }

    public int look(int n) {
        if (!within(n, 1, 20)) {
            return BAD;
        }
        for (int sees = 0; sees <= 9; sees++) {
            ahead.copyFrom(now);
            for (int i = 0; i < n; i++) {
                turns.step(ahead, sees, NOBODY);
            }
            if (ahead.wall == now.wall) {
                return sees;
            }
        }
        return NEVER;
    }

    public int needs(int child, int n) {
        if (!now.has(child)) {
            return NONE;
        }
        if (!within(n, 1, 8)) {
            return BAD;
        }
        for (int at = 0; at < now.yard.far; at++) {
            ahead.copyFrom(now);
            ahead.putOnTheWay(child, at);
            turns.pass(ahead, n);
            if (ahead.isAtWall(child)) {
                return at;
            }
        }
        return NEVER;
    }

    public int held(int child, int n) {
        if (!now.has(child)) {
            return NONE;
        }
        if (!within(n, 1, 20)) {
            return BAD;
        }
        int best = 0;
        int most = -1;
        for (int k = 0; k <= n; k++) {
            ahead.copyFrom(now);
            for (int i = 0; i < n; i++) {
                turns.step(ahead, ahead.yard.sees, i < k ? child : NOBODY);
            }
            if (ahead.at[child] > most) {
                most = ahead.at[child];
                best = k;
            }
        }
        return best;
    }

    public int shield(int one, int other, int n) {
        if (!now.has(one) || !now.has(other)) {
            return NO_CHILD_TO_SHIELD;
        }
        if (one == other || !within(n, 1, 20)) {
            return BAD_SHIELD;
        }
        ahead.copyFrom(now);
        turns.pass(ahead, n);
        int with = ahead.at[one];
        ahead.copyFrom(now);
        ahead.wall |= 1 << other;
        turns.pass(ahead, n);
        return with - ahead.at[one];
    }

    // ---- seen, odds, books

    public int see(int child, int n, int at) {
        if (child == NOBODY) {
            now.seenCount = 0;
            return 0;
        }
        if (!now.has(child)) {
            return NONE;
        }
        if (!within(n, 0, 20) || !within(at, 0, MOST_AT)) {
            return BAD;
        }
        if (now.seenCount >= MOST_SEEN) {
            return FULL;
        }
        return now.addSeen(child, n, at);
    }

    public int since() {
        int bits = 0;
        for (int k = 0; k < PLACES; k++) {
            ahead.copyFrom(now);
            ahead.turn += k;
            if (allSeenIsSo()) {
                bits |= 1 << k;
            }
        }
        return bits;
    }

    public int who(int n, int h) {
        if (!within(n, 0, 20) || !within(h, 0, MOST_AT)) {
            return BAD;
        }
        ahead.copyFrom(now);
        turns.pass(ahead, n);
        int bits = 0;
        for (int c = 0; c < ahead.size; c++) {
            if (ahead.at[c] == h) {
                bits |= 1 << c;
            }
        }
        return bits;
    }

    public long odds(int n, int part) {
        if (!within(n, 1, 20) || !within(part, 0, 1)) {
            return NO;
        }
        int calm = 0;
        for (int k = 0; k < PLACES; k++) {
            ahead.copyFrom(now);
            ahead.turn += k;
            if (turns.pass(ahead, n) == 0) {
                calm++;
            }
        }
        return partOfFraction(calm, PLACES, part);
    }

    public long mean(int n, int part) {
        if (!within(n, 0, 40) || !within(part, 0, 1) || now.size == 0) {
            return NO;
        }
        ahead.copyFrom(now);
        turns.pass(ahead, n);
        int together = 0;
        for (int c = 0; c < ahead.size; c++) {
            together += ahead.at[c];
        }
        return partOfFraction(together, ahead.size, part);
    }

    public int book(int child, int at) {
        if (child == NOBODY) {
            now.bookCount = 0;
            return 0;
        }
        if (!now.has(child)) {
            return NONE;
        }
        if (!within(at, 0, MOST_AT)) {
            return BAD;
        }
        if (now.bookCount >= MOST_BOOK) {
            return FULL;
        }
        return now.addToBook(child, at);
    }

    public int looked() {
        for (int i = 0; i < now.bookCount; i++) {
            int child = now.bookChild[i];
            if (now.has(child) && now.at[child] != now.bookAt[i]) {
                return i;
            }
        }
        return NEVER;
    }

    // ---- judging, the image, acts, tapes

    public int judge(int tape, int i) {
        if (!isTape(tape)) {
            return NONE;
        }
        if (tapeSort[tape] != SHORTS && tapeSort[tape] != HOLDS_NOTHING) {
            return CAST;
        }
        for (int c = 0; c < now.size; c++) {
            if (i < 0 || i >= tapeSize[tape] - c) {
                return ROW_ENDS + c;
            }
            if (tapeItems[tape][i + c] != now.at[c]) {
                return c;
            }
        }
        return NEVER;
    }

    public int image() {
        kept.copyFrom(now);
        hasImage = true;
        return kept.size;
    }

    public int undo() {
        if (!hasImage) {
            return STATE;
        }
        now.copyFrom(kept);
        return now.size;
    }

    public int act(int child, int act, int x) {
        acts.ran = 0;
        if (!now.has(child)) {
            return 0;
        }
        acts.number = child;
        acts.v = now.v[child];
        Child kind = kinds[now.kind[child]];
        switch (act) {
            case 0: return kind.running(acts, x);
            case 1: return kind.standing(acts, x);
            case 2: return kind.telling(acts, x);
            default: return 0;
        }
    }

    public int trace(int i) {
        if (i < 0 || i >= acts.ran || i >= Acts.MOST_KEPT) {
            return NONE;
        }
        return acts.bodies[i];
    }

    public int taken(int child, int k) {
        if (!within(k, 0, KINDS - 1)) {
            return BAD;
        }
        if (!now.has(child)) {
            return NOTHING;
        }
        int above = now.kind[child];
        for (int i = 0; i < KINDS && within(above, 0, KINDS - 1); i++) {
            if (above == k) {
                return now.kind[child];
            }
            above = KIND_ABOVE[above];
        }
        return CAST;
    }

    public int count(int what) {
        switch (what) {
            case 0: return now.size;
            case 1: return yardCount;
            case 2: return now.seenCount;
            case 3: return now.bookCount;
            case 4: return textLength;
            case 5: return acts.ran;
            default: return BAD;
        }
    }

    public int tape(int tape, int sort, int n) {
        if (!isTape(tape)) {
            return NONE;
        }
        if (sort == HOLDS_NOTHING) {
            tapeSort[tape] = HOLDS_NOTHING;
            tapeSize[tape] = 0;
            return 1;
        }
        if (!within(sort, BYTES, BOOLEANS) || n > MOST_ITEMS) {
            return BAD;
        }
        if (n < 0) {
            return SIZE;
        }
        tapeSort[tape] = sort;
        tapeSize[tape] = n;
        for (int i = 0; i < n; i++) {
            tapeItems[tape][i] = 0;
        }
        return 1;
    }

    public int item(int tape, int i, long v) {
        if (!isTape(tape)) {
            return NONE;
        }
        if (tapeSort[tape] == HOLDS_NOTHING) {
            return NOTHING;
        }
        if (i < 0 || i >= tapeSize[tape]) {
            return PLACE;
        }
        tapeItems[tape][i] = asItem(tapeSort[tape], v);
        return 1;
    }

    public long read(int tape, int i) {
        if (!isTape(tape) || i < 0 || i >= tapeSize[tape]) {
            return NO;
        }
        return tapeItems[tape][i];
    }

    public int shift(int tape, int i, int other, int j, int n) {
        if (!isTape(tape) || !isTape(other)) {
            return NONE;
        }
        if (tapeSort[tape] == HOLDS_NOTHING || tapeSort[other] == HOLDS_NOTHING) {
            return NOTHING;
        }
        if (tapeSort[tape] != tapeSort[other]) {
            return CAST;
        }
        if (n < 0 || i < 0 || j < 0 || n > tapeSize[tape] - i || n > tapeSize[other] - j) {
            return PLACE;
        }
        System.arraycopy(tapeItems[tape], i, tapeItems[other], j, n);
        return n;
    }

    // ---- helpers

    private static boolean within(int n, int least, int most) {
        return n >= least && n <= most;
    }

    private static boolean isTape(int tape) {
        return within(tape, 0, TAPES - 1);
    }

    private static int placeIn(int code, int i) {
        return (code >> (2 * (PLACES - 1 - i))) & 3;
    }

    private static boolean namesEachPlace(int code) {
        int named = 0;
        for (int i = 0; i < PLACES; i++) {
            named |= 1 << placeIn(code, i);
        }
        return named == 15;
    }

    /** Whether all of SEEN comes so, from the scene ahead on; plays that scene. */
    private boolean allSeenIsSo() {
        for (int gone = 0; gone <= 20; gone++) {
            for (int i = 0; i < now.seenCount; i++) {
                int child = now.seenChild[i];
                if (now.seenBehind[i] == gone && now.has(child) && ahead.at[child] != now.seenAt[i]) {
                    return false;
                }
            }
            turns.step(ahead, ahead.yard.sees, NOBODY);
        }
        return true;
    }

    private static long partOfFraction(int above, int below, int part) {
        int both = 1;
        for (int d = 2; d <= below; d++) {
            if (above % d == 0 && below % d == 0) {
                both = d;
            }
        }
        return part == 0 ? above / both : below / both;
    }

    /** What an item of a sort keeps of v. */
    private static long asItem(int sort, long v) {
        switch (sort) {
            case BYTES: return (byte) v;
            case SHORTS: return (short) v;
            case INTS: return (int) v;
            case LONGS: return v;
            default: return v != 0 ? 1 : 0;
        }
    }

    /** All that THE IMAGE holds: the CHILDREN, SHE, SEEN, the BOOK and which YARD holds. */
    private static final class Scene {
        final int[] kind = new int[MOST_CHILDREN];
        final int[] v = new int[MOST_CHILDREN];
        final int[] at = new int[MOST_CHILDREN];
        final int[] early = new int[MOST_CHILDREN];
        final int[] sent = new int[MOST_CHILDREN];
        /** The ROWS of all, four numbers each. */
        final int[] rows = new int[MOST_CHILDREN * PLACES];
        int size;
        /** Who is at THE WALL, as bits. */
        int wall;
        final int[] herCounts = new int[PLACES];
        int turn;
        Yard yard;
        final int[] seenChild = new int[MOST_SEEN];
        final int[] seenBehind = new int[MOST_SEEN];
        final int[] seenAt = new int[MOST_SEEN];
        int seenCount;
        final int[] bookChild = new int[MOST_BOOK];
        final int[] bookAt = new int[MOST_BOOK];
        int bookCount;

        Scene(Yard without) {
            yard = without;
            for (int k = 0; k < PLACES; k++) {
                herCounts[k] = 3;
            }
        }

        void copyFrom(Scene other) {
            System.arraycopy(other.kind, 0, kind, 0, MOST_CHILDREN);
            System.arraycopy(other.v, 0, v, 0, MOST_CHILDREN);
            System.arraycopy(other.at, 0, at, 0, MOST_CHILDREN);
            System.arraycopy(other.early, 0, early, 0, MOST_CHILDREN);
            System.arraycopy(other.sent, 0, sent, 0, MOST_CHILDREN);
            System.arraycopy(other.rows, 0, rows, 0, MOST_CHILDREN * PLACES);
            size = other.size;
            wall = other.wall;
            System.arraycopy(other.herCounts, 0, herCounts, 0, PLACES);
            turn = other.turn;
            yard = other.yard;
            System.arraycopy(other.seenChild, 0, seenChild, 0, MOST_SEEN);
            System.arraycopy(other.seenBehind, 0, seenBehind, 0, MOST_SEEN);
            System.arraycopy(other.seenAt, 0, seenAt, 0, MOST_SEEN);
            seenCount = other.seenCount;
            System.arraycopy(other.bookChild, 0, bookChild, 0, MOST_BOOK);
            System.arraycopy(other.bookAt, 0, bookAt, 0, MOST_BOOK);
            bookCount = other.bookCount;
        }

        boolean has(int child) {
            return child >= 0 && child < size;
        }

        boolean isAtWall(int child) {
            return ((wall >> child) & 1) != 0;
        }

        int everybody() {
            return (1 << size) - 1;
        }

        /** The place of the COUNT and of the number of a ROW that are in force. */
        int placeNow() {
            return turn & (PLACES - 1);
        }

        int addChild(int itsKind, int itsNumber) {
            int child = size;
            kind[child] = itsKind;
            v[child] = itsNumber;
            at[child] = 0;
            early[child] = 1;
            sent[child] = 0;
            for (int part = 0; part < PLACES; part++) {
                rows[child * PLACES + part] = 0;
            }
            size++;
            return child;
        }

        void putOnTheWay(int child, int itsAt) {
            at[child] = itsAt;
            wall &= ~(1 << child);
        }

        int addSeen(int child, int behind, int itsAt) {
            seenChild[seenCount] = child;
            seenBehind[seenCount] = behind;
            seenAt[seenCount] = itsAt;
            seenCount++;
            return seenCount;
        }

        int addToBook(int child, int itsAt) {
            bookChild[bookCount] = child;
            bookAt[bookCount] = itsAt;
            bookCount++;
            return bookCount;
        }
    }

    /** How TURNS go in a scene, with the rows that this takes. */
    private static final class Turns {
        final Child[] kinds;
        final int[] pace = new int[MOST_CHILDREN];
        final int[] goes = new int[MOST_CHILDREN];
        final int[] wobbles = new int[MOST_CHILDREN];
        final int[] facts = new int[Yard.LETTERS.length()];

        Turns(Child[] allKinds) {
            kinds = allKinds;
        }

        /** PACE, GOES and WOBBLES of all, as the scene is. */
        void foresee(Scene scene) {
            int herCount = scene.herCounts[scene.placeNow()];
            for (int c = 0; c < scene.size; c++) {
                Child kind = kinds[scene.kind[c]];
                int early = scene.early[c];
                int v = scene.v[c];
                pace[c] = kind.paceOf(v, scene.rows[c * PLACES + scene.placeNow()]);
                goes[c] = herCount > early ? pace[c] * (herCount - early) : 0;
                // These stand as the letters of a TEST stand in Yard.LETTERS.
                facts[0] = c;
                facts[1] = scene.kind[c];
                facts[2] = early;
                facts[3] = herCount;
                facts[4] = scene.at[c] / 5;
                facts[5] = scene.turn % 10;
                int shake = scene.yard.shakeFor(facts);
                wobbles[c] = kind.wobblesOf(v, early, pace[c], goes[c], shake);
            }
        }

        /** A TURN by which SHE looks at so many, and one (or NOBODY) is held; who is sent back. */
        int step(Scene scene, int sees, int heldOne) {
            foresee(scene);
            if (scene.has(heldOne)) {
                goes[heldOne] = 0;
                wobbles[heldOne] = 0;
            }
            goOn(scene);
            int back = whoIsSentBack(scene, sees);
            for (int c = 0; c < scene.size; c++) {
                if (((back >> c) & 1) != 0) {
                    scene.at[c] = 0;
                    scene.sent[c]++;
                }
            }
            scene.turn++;
            return back;
        }

        void goOn(Scene scene) {
            for (int c = 0; c < scene.size; c++) {
                if (scene.isAtWall(c)) {
                    continue;
                }
                scene.at[c] += goes[c];
                if (scene.at[c] >= scene.yard.far) {
                    scene.at[c] = scene.yard.far;
                    scene.wall |= 1 << c;
                }
            }
        }

        int whoIsSentBack(Scene scene, int sees) {
            int back = 0;
            for (int c = 0; c < scene.size; c++) {
                boolean shows = !scene.isAtWall(c) && wobbles[c] > scene.yard.sharp;
                if (shows && lookedAtAhead(scene, c) < sees) {
                    back |= 1 << c;
                }
            }
            return back;
        }

        /** How many SHE looks at ahead of one. */
        int lookedAtAhead(Scene scene, int child) {
            int ahead = 0;
            for (int c = 0; c < scene.size; c++) {
                boolean farther = scene.at[c] > scene.at[child]
                    || (scene.at[c] == scene.at[child] && c < child);
                if (farther && !scene.isAtWall(c)) {
                    ahead++;
                }
            }
            return ahead;
        }

        /** n TURNS; who is sent back in any of them. */
        int pass(Scene scene, int n) {
            int back = 0;
            for (int i = 0; i < n; i++) {
                back |= step(scene, scene.yard.sees, NOBODY);
            }
            return back;
        }

        /** Behind how many TURNS any of these is at THE WALL; the scene is then so. */
        int untilWall(Scene scene, int these) {
            for (int gone = 0; gone <= MOST_TOUCHES; gone++) {
                if ((scene.wall & these) != 0) {
                    return gone;
                }
                step(scene, scene.yard.sees, NOBODY);
            }
            return NEVER;
        }
    }

    /** What is read from THE TEXT; it keeps no byte of it. */
    private static final class Yard {
        static final int NO_FAULT = -1;
        static final String LETTERS = "ckebat", SIGNS = "<=>";
        static final int MOST_CLAUSES = 10, MOST_AROUND = 4;
        static final int WOBBLE = 0, STILL = 1, FAR = 2, SHARP = 3, SEES = 4, WORDS = 5;
        /** What is not a TEST in the codes. */
        static final int NOT = -1, AND = -2, OR = -3;

        final byte[] text;
        int end;
        int place;

        final int[] word = new int[MOST_CLAUSES];
        final int[] number = new int[MOST_CLAUSES];
        final int[] codeFrom = new int[MOST_CLAUSES];
        final int[] codeTo = new int[MOST_CLAUSES];
        int clauses;
        /** The Es, each with what is joined ahead of what joins it. */
        final int[] codes = new int[MOST_BYTES];
        int codeCount;
        int far = 40;
        int sharp = 3;
        int sees = 9;

        Yard(byte[] theText) {
            text = theText;
        }

        /** Reads so many bytes; the FAULT or NO_FAULT. */
        int faultOf(int length) {
            end = length;
            place = 0;
            clauses = 0;
            codeCount = 0;
            far = 40;
            sharp = 3;
            sees = 9;
            for (int c = 0; c < MOST_CLAUSES; c++) {
                if (!readClause()) {
                    return place;
                }
                if (place >= end) {
                    return NO_FAULT;
                }
                if (c == MOST_CLAUSES - 1 || !skip(';')) {
                    return place;
                }
            }
            return place;
        }

        // Each that reads leaves the place at the first byte that can't be there, if there is one.

        boolean readClause() {
            int itsWord = readWord();
            if (itsWord < 0 || !skip(' ')) {
                return false;
            }
            int n = readNumber();
            if (n < 0) {
                return false;
            }
            int from = codeCount;
            if (itsWord == WOBBLE || itsWord == STILL) {
                if (!skip(' ') || !readEither(0)) {
                    return false;
                }
            }
            addClause(itsWord, n, from);
            return true;
        }

        void addClause(int itsWord, int n, int from) {
            word[clauses] = itsWord;
            number[clauses] = n;
            codeFrom[clauses] = from;
            codeTo[clauses] = codeCount;
            clauses++;
            switch (itsWord) {
                case FAR: far = n < 1 ? 1 : n; break;
                case SHARP: sharp = n; break;
                case SEES: sees = n; break;
                default: break;
            }
        }

        static String wordOf(int which) {
            switch (which) {
                case WOBBLE: return "wobble";
                case STILL: return "still";
                case FAR: return "far";
                case SHARP: return "sharp";
                default: return "sees";
            }
        }

        int readWord() {
            int longest = 0;
            for (int which = 0; which < WORDS; which++) {
                String each = wordOf(which);
                int same = sameAs(each);
                if (same == each.length()) {
                    place += same;
                    return which;
                }
                longest = Math.max(longest, same);
            }
            place += longest;
            return -1;
        }

        int sameAs(String each) {
            for (int i = 0; i < each.length(); i++) {
                if (signAt(place + i) != each.charAt(i)) {
                    return i;
                }
            }
            return each.length();
        }

        int signAt(int where) {
            return where >= 0 && where < end && where < text.length ? text[where] : -1;
        }

        boolean skip(char sign) {
            if (signAt(place) != sign) {
                return false;
            }
            place++;
            return true;
        }

        static boolean isDigit(int sign) {
            return sign >= '0' && sign <= '9';
        }

        /** A number of one or two digits, or -1. */
        int readNumber() {
            int one = signAt(place);
            if (!isDigit(one)) {
                return -1;
            }
            place++;
            int two = signAt(place);
            if (!isDigit(two)) {
                return one - '0';
            }
            place++;
            return (one - '0') * 10 + two - '0';
        }

        /** Reads E within so many ( and !. */
        boolean readEither(int around) {
            boolean joinsBoth = false;
            boolean joinsEither = false;
            for (int i = 0; i < MOST_BYTES; i++) {
                if (!readPart(around)) {
                    return false;
                }
                if (joinsBoth) {
                    addCode(AND);
                }
                joinsBoth = skip('&');
                if (joinsBoth) {
                    continue;
                }
                // All that & joins stands in the codes by now, so | joins what has been joined.
                if (joinsEither) {
                    addCode(OR);
                }
                joinsEither = skip('|');
                if (!joinsEither) {
                    return true;
                }
            }
            return false;
        }

        boolean readPart(int around) {
            int sign = signAt(place);
            if (sign != '!' && sign != '(') {
                return readTest();
            }
            if (around >= MOST_AROUND) {
                return false;
            }
            place++;
            if (sign == '(') {
                return readEither(around + 1) && skip(')');
            }
            if (!readPart(around + 1)) {
                return false;
            }
            addCode(NOT);
            return true;
        }

        boolean readTest() {
            int letter = readOneOf(LETTERS);
            if (letter < 0) {
                return false;
            }
            int sign = readOneOf(SIGNS);
            if (sign < 0) {
                return false;
            }
            int n = readNumber();
            if (n < 0) {
                return false;
            }
            addCode((letter * 3 + sign) * 100 + n);
            return true;
        }

        int readOneOf(String these) {
            int sign = signAt(place);
            int which = sign < 0 ? -1 : these.indexOf((char) sign);
            if (which >= 0) {
                place++;
            }
            return which;
        }

        void addCode(int code) {
            // Each code has a byte of its own in THE TEXT, so this always fits.
            if (codeCount < codes.length) {
                codes[codeCount] = code;
                codeCount++;
            }
        }

        /** SHAKE of one of whom the letters tell these facts. */
        int shakeFor(int[] facts) {
            int shake = 0;
            for (int c = 0; c < clauses; c++) {
                if (word[c] == WOBBLE && holds(c, facts)) {
                    shake += number[c];
                } else if (word[c] == STILL && holds(c, facts)) {
                    shake -= number[c];
                }
            }
            return shake;
        }

        boolean holds(int clause, int[] facts) {
            // What is found so far, the latest as the lowest bit: at most three for each ( around.
            int found = 0;
            for (int i = codeFrom[clause]; i < codeTo[clause]; i++) {
                int code = codes[i];
                switch (code) {
                    case NOT: found ^= 1; break;
                    case AND: found = (found >> 1) & (found | ~1); break;
                    case OR: found = (found >> 1) | (found & 1); break;
                    default: found = (found << 1) | (isSo(code, facts) ? 1 : 0); break;
                }
            }
            return (found & 1) != 0;
        }

        static boolean isSo(int code, int[] facts) {
            int letter = code / 300;
            if (letter < 0 || letter >= facts.length) {
                return false;
            }
            int n = code % 100;
            switch (code / 100 % 3) {
                case 0: return facts[letter] < n;
                case 1: return facts[letter] == n;
                default: return facts[letter] > n;
            }
        }
    }

    /** Whose ACT it is, and THE TRACE of it. */
    private static final class Acts {
        static final int MOST_KEPT = 20;
        final int[] bodies = new int[MOST_KEPT];
        int ran;
        int number;
        int v;

        void begin(int body) {
            if (ran < MOST_KEPT) {
                bodies[ran] = body;
            }
            ran++;
        }
    }

    private static class Child {
        int paceOf(int v, int more) {
            return 2 + v / 3;
        }

        int wobblesOf(int v, int early, int pace, int goes, int shake) {
            if (goes == 0) {
                return 0;
            }
            return Math.max(0, pace + shake - 2 * early);
        }

        int running(Acts acts, int x) {
            acts.begin(10);
            return x + acts.number;
        }

        int standing(Acts acts, int x) {
            acts.begin(11);
            return running(acts, x) - acts.v;
        }

        int telling(Acts acts, int x) {
            acts.begin(12);
            return standing(acts, x) * 2;
        }
    }

    private static class Quick extends Child {
        int paceOf(int v, int more) {
            return super.paceOf(v, more) + 2;
        }

        int standing(Acts acts, int x) {
            acts.begin(20);
            return super.standing(acts, x) ^ 6;
        }
    }

    private static class Steady extends Child {
        int wobblesOf(int v, int early, int pace, int goes, int shake) {
            return Math.max(0, super.wobblesOf(v, early, pace, goes, shake) - v);
        }

        int running(Acts acts, int x) {
            acts.begin(30);
            return super.running(acts, x * 3);
        }
    }

    private static class Small extends Child {
        int paceOf(int v, int more) {
            return 1 + v / 4;
        }

        int wobblesOf(int v, int early, int pace, int goes, int shake) {
            return Math.min(3, super.wobblesOf(v, early, pace, goes, shake));
        }

        int telling(Acts acts, int x) {
            acts.begin(40);
            return super.telling(acts, x) + standing(acts, 1);
        }
    }

    private static final class Reckless extends Quick {
        int paceOf(int v, int more) {
            return 2 * super.paceOf(v, more);
        }

        int wobblesOf(int v, int early, int pace, int goes, int shake) {
            return super.wobblesOf(v, early, pace, goes, shake) + 1;
        }

        int running(Acts acts, int x) {
            acts.begin(50);
            return -super.running(acts, x);
        }

        int standing(Acts acts, int x) {
            acts.begin(51);
            return super.standing(acts, x + 1);
        }
    }

    private static final class Careful extends Steady {
        int paceOf(int v, int more) {
            return super.paceOf(v, more) - 1;
        }

        int wobblesOf(int v, int early, int pace, int goes, int shake) {
            return early >= 2 ? 0 : super.wobblesOf(v, early, pace, goes, shake);
        }

        int telling(Acts acts, int x) {
            acts.begin(60);
            return super.telling(acts, x - acts.number);
        }
    }

    private static final class Told extends Small {
        int paceOf(int v, int more) {
            return super.paceOf(v, more) + more;
        }

        int running(Acts acts, int x) {
            acts.begin(71);
            return super.running(acts, x) ^ acts.v;
        }

        int standing(Acts acts, int x) {
            acts.begin(70);
            return super.standing(acts, x) + super.running(acts, 2);
        }
    }
}
