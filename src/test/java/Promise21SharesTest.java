/** Promise 21: shares. */
public final class Promise21SharesTest extends Check {
    public static void main(String[] args) {
        PredictionMaker x = withMarket(60, 4);
        x.openMarket(60, 2, 50);
        x.buy(0, 0, 2, 7);
        x.buy(5, 0, 2, 4);
        x.sell(0, 0, 2, 3);
        x.place(1, 0, 3, 2, 2880);
        int[] shares = {0, 0, 8, 2};
        for (int o = 0; o < 4; o++) {
            due("outcome " + o, x.shares(0, o), shares[o]);
        }
        due("another market", x.shares(1, 1), 0);
        due("outcome 2 of two", x.shares(1, 2), NONE);
        due("outcome 4", x.shares(0, 4), NONE);
        due("outcome -1", x.shares(0, -1), NONE);
        due("market 2", x.shares(2, 0), NONE);
        due("market -1", x.shares(-1, 0), NONE);
        for (int wild : WILD) {
            due("market " + wild, x.shares(wild, 0), NONE);
            due("outcome " + wild, x.shares(0, wild), NONE);
        }
        x.tick(100);
        due("expired", x.shares(0, 2), 8);
        x.settle(0, 2);
        due("settled", x.shares(0, 2), 8);
        due("void", x.shares(1, 0), 0);
        PredictionMaker y = withMarket(60, 2);
        fill(y, 0, 0, 1, 400);
        due("400 shares", y.shares(0, 1), 400);
        y.cancelMarket(0);
        due("kept when void", y.shares(0, 1), 400);
        end();
    }
}
