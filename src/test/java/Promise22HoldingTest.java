/** Promise 22: holding. */
public final class Promise22HoldingTest extends Check {
    public static void main(String[] args) {
        PredictionMaker x = withMarket(60, 4);
        x.openMarket(60, 2, 50);
        x.buy(0, 0, 2, 7);
        x.buy(5, 0, 2, 4);
        x.sell(0, 0, 2, 3);
        x.buySet(5, 0, 12, 1);
        due("bought and sold", x.holding(0, 0, 2), 4);
        due("another trader", x.holding(5, 0, 2), 5);
        due("of a set", x.holding(5, 0, 3), 1);
        due("none of it", x.holding(1, 0, 2), 0);
        due("another market", x.holding(0, 1, 1), 0);
        due("trader 6", x.holding(6, 0, 0), NONE);
        due("trader -1", x.holding(-1, 0, 0), NONE);
        due("market 2", x.holding(0, 2, 0), NONE);
        due("market -1", x.holding(0, -1, 0), NONE);
        due("outcome 4", x.holding(0, 0, 4), NONE);
        due("outcome -1", x.holding(0, 0, -1), NONE);
        due("outcome 2 of two", x.holding(0, 1, 2), NONE);
        for (int wild : WILD) {
            due("trader " + wild, x.holding(wild, 0, 0), NONE);
            due("market " + wild, x.holding(0, wild, 0), NONE);
            due("outcome " + wild, x.holding(0, 0, wild), NONE);
        }
        x.cancelMarket(0);
        due("void", x.holding(0, 0, 2), 4);
        end();
    }
}
