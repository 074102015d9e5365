/** "What is asked changes nothing": every call that asks, at the edges of its numbers, by twins. */
public final class AskedTest {
    private static final Due DUE = new Due("AskedTest");
    private static final String[] ASKED = {
        "told(0)", "told(1)", "told(2)", "told(3)", "told(4)", "told(10)", "told(13)", "on(0, 0)", "on(40, 0)", "on(0, 1)",
        "on(40, 1)", "on(0, 10)", "on(40, 10)", "on(1, 16)", "first()", "risks()", "slow(1, 0)", "slow(20, 0)", "slow(1, 1)",
        "slow(20, 1)", "order(1, -1)", "order(20, -1)", "order(1, 0)", "order(20, 3)", "look(1)", "look(20)", "since()",
        "who(0, 0)", "who(20, 0)", "who(0, 99)", "who(20, 99)", "odds(1, 0)", "odds(20, 0)", "odds(1, 1)", "odds(20, 1)",
        "mean(0, 0)", "mean(40, 0)", "mean(0, 1)", "mean(40, 1)", "looked()", "judge(0, 0)", "judge(0, 1)", "judge(5, 0)",
        "trace(0)", "trace(11)", "count(0)", "count(5)", "read(0, 0)", "read(3, 59)"};
    private static final String[] ASKED_OF_ONE = {
        "of(C, 0)", "of(C, 5)", "of(C, 6)", "of(C, 7)", "of(C, 8)", "touches(C)", "stands(C)", "needs(C, 1)", "needs(C, 8)",
        "held(C, 1)", "held(C, 20)", "taken(C, 0)", "taken(C, 6)"};

    public static void main(String[] args) {
        all(new Twins(DUE, "nobody", Scenes::nobody), 1);
        all(new Twins(DUE, "some", Scenes::some), 3);
        all(new Twins(DUE, "full", Scenes::full), 7);
        all(new Twins(DUE, "all at THE WALL", Scenes::atTheWall), 2);
        all(new Twins(DUE, "all sent back", Scenes::sentBack), 4);
        DUE.end();
    }

    private static void all(Twins twins, int children) {
        for (String call : ASKED) {
            twins.asks(call);
        }
        for (int c = 0; c < children; c++) {
            for (String call : ASKED_OF_ONE) {
                twins.asks(call.replace("C", "" + c));
            }
            for (int other = 0; other < children; other++) {
                twins.asks("shield(" + c + ", " + other + ", 1)");
                twins.asks("shield(" + c + ", " + other + ", 20)");
            }
        }
    }
}
