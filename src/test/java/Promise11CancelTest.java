/** Promise 11: cancel. */
public final class Promise11CancelTest extends Check {
    public static void main(String[] args) {
        PredictionMaker x = withMarket(60, 2);
        x.place(0, 0, 0, 10, 1480);
        x.place(1, 0, 0, 5, 1000);
        x.place(2, 0, 0, 6, 1000);
        due("three of ten were bought", x.holding(0, 0, 0), 3);
        String before = stateOf(x);
        refused("order -1", x, before, x.cancel(-1), NONE);
        refused("order 3", x, before, x.cancel(3), NONE);
        for (int wild : WILD) {
            refused("order " + wild, x, before, x.cancel(wild), NONE);
        }
        due("the rest of the first", x.cancel(0), 7);
        due("it is not open any more", x.order(0, 0), NONE);
        due("it cannot be cancelled twice", x.cancel(0), NONE);
        due("what was bought stays", x.holding(0, 0, 0), 3);
        due("open orders", x.count(2), 2);
        due("all of the second", x.cancel(1), 5);
        due("the third waits alone", x.waiting(0, 0), 2);
        due("at the first position", x.waiting(0, 1), NONE);
        due("as it was", x.order(2, 3), 6);
        due("the last", x.cancel(2), 6);
        due("no open orders", x.count(2), 0);
        due("numbers go on", x.place(0, 0, 0, 1, 1), 3);
        due("a bought order is not open", x.place(0, 0, 0, 1, 2880), 4);
        due("and is not cancelled", x.cancel(4), NONE);
        expired();
        end();
    }

    private static void expired() {
        PredictionMaker x = withMarket(60, 2);
        x.place(0, 0, 0, 1, 1);
        x.tick(100);
        due("expiry cancelled it", x.cancel(0), NONE);
    }
}
