/** Promise 23: trader. */
public final class Promise23TraderTest extends Check {
    public static void main(String[] args) {
        numbers();
        states();
        orders();
        wrong();
        end();
    }

    private static void numbers() {
        PredictionMaker x = withMarket(60, 2);
        x.openMarket(60, 3, 100);
        x.openMarket(60, 2, 50);
        due("nothing held", x.trader(1, 1), 0);
        x.buy(1, 0, 0, 10);
        x.buy(1, 0, 1, 4);
        x.buy(1, 1, 2, 8);
        x.buy(2, 1, 1, 3);
        int worth = 10 * 1512 + 4 * 1368 + 8 * x.price(1, 2);
        due("the worth", x.trader(1, 1), worth);
        due("the most coins", x.trader(1, 3), 10 + 8);
        due("another's worth", x.trader(2, 1), 3 * x.price(1, 1));
        due("another's most coins", x.trader(2, 3), 3);
        due("a third has nothing", x.trader(3, 1) + x.trader(3, 3), 0);
        int paid = x.paid(1, 0) + x.paid(1, 1);
        due("the balance", x.trader(1, 0), 500 * COIN - paid);
        x.buy(1, 0, 1, 9);
        due("the other outcome is more now", x.trader(1, 3), 13 + 8);
    }

    private static void states() {
        PredictionMaker x = withMarket(60, 2);
        x.openLinked(60, 2, 100, 0, 0);
        x.openMarket(60, 2, 50);
        for (int market = 0; market < 3; market++) {
            x.buy(0, market, 0, 5);
        }
        due("all open", x.trader(0, 3), 15);
        due("each taken by itself", x.trader(0, 1), 3 * 5 * 1500);
        x.tick(50);
        due("expired counts", x.trader(0, 3), 15);
        due("its worth, too", x.trader(0, 1), 3 * 5 * 1500);
        x.settle(2, 0);
        due("settled does not count", x.trader(0, 3), 10);
        due("nor its worth", x.trader(0, 1), 2 * 5 * 1500);
        x.cancelMarket(1);
        due("void does not count", x.trader(0, 3), 5);
        due("nor its worth", x.trader(0, 1), 5 * 1500);
    }

    private static void orders() {
        PredictionMaker x = withMarket(60, 2);
        x.openMarket(60, 2, 50);
        x.place(2, 0, 0, 1, 1);
        x.place(2, 1, 0, 1, 1);
        x.place(3, 1, 0, 1, 1);
        x.place(2, 1, 0, 1, 2880);
        due("open orders", x.trader(2, 2), 2);
        due("another's", x.trader(3, 2), 1);
        due("nobody's", x.trader(0, 2), 0);
        x.tick(50);
        due("after an expiry", x.trader(2, 2), 1);
        x.cancel(0);
        due("after a cancel", x.trader(2, 2), 0);
    }

    private static void wrong() {
        PredictionMaker x = withMarket(60, 2);
        due("trader 6", x.trader(6, 0), BAD_ARGUMENT);
        due("trader -1", x.trader(-1, 0), BAD_ARGUMENT);
        due("what 4", x.trader(0, 4), BAD_ARGUMENT);
        due("what -1", x.trader(0, -1), BAD_ARGUMENT);
        for (int wild : WILD) {
            due("trader " + wild, x.trader(wild, 0), BAD_ARGUMENT);
            due("what " + wild, x.trader(0, wild), BAD_ARGUMENT);
        }
    }
}
