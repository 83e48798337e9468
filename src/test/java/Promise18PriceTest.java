/** Promise 18: price. */
public final class Promise18PriceTest extends Check {
    public static void main(String[] args) {
        for (int b : new int[] {1, 2, 3, 4, 5, 6, 10, 12, 15, 20, 30, 60}) {
            PredictionMaker x = withMarket(b, 2);
            for (int bought = 0; bought <= 150; bought++) {
                int slope = 720 * Math.min(bought, 2 * b) / b;
                due("dear, " + bought, x.price(0, 0), 1440 + slope);
                due("cheap, " + bought, x.price(0, 1), 1440 - slope);
                x.buy(0, 0, 0, 1);
            }
        }
        evenPrices();
        fourOutcomes();
        states();
        wrong();
        end();
    }

    private static void evenPrices() {
        for (int n = 2; n <= 4; n++) {
            PredictionMaker x = withMarket(12, n);
            for (int o = 0; o < n; o++) {
                due("one of " + n, x.price(0, o), COIN / n);
            }
            due("no more outcomes", x.price(0, n), NONE);
        }
    }

    /** All prices of active outcomes together are a coin; those of others are 0. */
    private static void fourOutcomes() {
        PredictionMaker x = withMarket(5, 4);
        x.buy(0, 0, 3, 14);
        x.buy(0, 0, 1, 5);
        x.buy(0, 0, 0, 1);
        due("14 shares", x.price(0, 3), 120 / 5 * (12 * 14 - 6 * 9));
        due("5 shares", x.price(0, 1), 120 / 5 * (12 * 5 - 6 * 9));
        due("a share, not active", x.price(0, 0), 0);
        due("no share, not active", x.price(0, 2), 0);
        due("all together", x.price(0, 3) + x.price(0, 1), COIN);
        x.buy(0, 0, 3, 1);
        due("a coin", x.price(0, 3), COIN);
        due("on the edge, not active", x.price(0, 1), 0);
    }

    private static void states() {
        PredictionMaker x = withMarket(60, 2);
        x.openMarket(60, 2, 200);
        x.buy(0, 0, 0, 10);
        x.buy(0, 1, 0, 10);
        x.tick(100);
        due("expired", x.price(0, 0), 1560);
        x.settle(0, 1);
        due("settled", x.price(0, 0), 1560);
        x.cancelMarket(1);
        due("void", x.price(1, 1), 1320);
    }

    private static void wrong() {
        PredictionMaker x = withMarket(60, 2);
        due("market 1", x.price(1, 0), NONE);
        due("market -1", x.price(-1, 0), NONE);
        due("outcome 2", x.price(0, 2), NONE);
        due("outcome -1", x.price(0, -1), NONE);
        for (int wild : WILD) {
            due("market " + wild, x.price(wild, 0), NONE);
            due("outcome " + wild, x.price(0, wild), NONE);
        }
    }
}
