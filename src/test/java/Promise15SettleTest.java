/** Promise 15: settle. */
public final class Promise15SettleTest extends Check {
    public static void main(String[] args) {
        settled();
        wrong();
        conditions();
        end();
    }

    private static void settled() {
        PredictionMaker x = withMarket(60, 3);
        x.buy(0, 0, 0, 10);
        x.buy(1, 0, 1, 20);
        x.buy(2, 0, 1, 5);
        x.buy(2, 0, 2, 7);
        int account = x.market(0, 6);
        int[] balances = new int[6];
        for (int t = 0; t < 6; t++) {
            balances[t] = x.trader(t, 0);
        }
        x.tick(100);
        due("25 coins", x.settle(0, 1), 25 * COIN);
        due("its state", x.market(0, 0), 2);
        due("its outcome", x.market(0, 9), 1);
        due("its account", x.market(0, 6), account - 25 * COIN);
        int[] coins = {0, 20, 5, 0, 0, 0};
        for (int t = 0; t < 6; t++) {
            due("what trader " + t + " has", x.trader(t, 0), balances[t] + coins[t] * COIN);
        }
        due("shares stay", x.shares(0, 1), 25);
        due("holdings stay", x.holding(1, 0, 1), 20);
        due("what was paid stays", x.paid(0, 0) + x.paid(1, 0) + x.paid(2, 0), account);
        due("it is not void", x.voidReason(0, 0), NONE);
        due("not twice", x.settle(0, 1), STATE);
        PredictionMaker y = withMarket(60, 2);
        y.tick(100);
        due("a market without shares pays nothing", y.settle(0, 0), 0);
    }

    private static void wrong() {
        PredictionMaker x = withMarket(60, 2);
        x.openMarket(60, 2, 50);
        x.openMarket(60, 2, 50);
        x.cancelMarket(2);
        x.tick(50);
        String before = stateOf(x);
        refused("open", x, before, x.settle(0, 0), STATE);
        refused("void", x, before, x.settle(2, 0), STATE);
        refused("market -1", x, before, x.settle(-1, 0), NONE);
        refused("market 3", x, before, x.settle(3, 0), NONE);
        refused("outcome -1", x, before, x.settle(1, -1), NONE);
        refused("outcome 2", x, before, x.settle(1, 2), NONE);
        refused("none before state", x, before, x.settle(0, 2), NONE);
        for (int wild : WILD) {
            refused("market " + wild, x, before, x.settle(wild, 0), NONE);
            refused("outcome " + wild, x, before, x.settle(1, wild), NONE);
        }
        due("the last tick", x.tick(9), 59);
        due("is not too late", x.settle(1, 0), 0);
    }

    private static void conditions() {
        PredictionMaker x = withMarket(60, 3);
        x.openLinked(60, 2, 95, 0, 1);
        x.openLinked(60, 2, 200, 0, 2);
        x.openLinked(60, 2, 200, 2, 0);
        x.openLinked(60, 2, 200, 1, 0);
        x.openLinked(60, 2, 200, 0, 0);
        x.buy(0, 1, 0, 5);
        x.buy(0, 2, 0, 5);
        x.buy(1, 3, 1, 5);
        x.place(4, 2, 0, 1, 1);
        x.place(4, 3, 0, 1, 1);
        x.place(4, 4, 0, 1, 1);
        x.tick(99);
        due("its condition's market is open", x.settle(1, 0), STATE);
        x.tick(1);
        due("its condition's market is expired", x.settle(1, 0), STATE);
        due("the condition", x.settle(0, 1), 0);
        due("the same outcome: still expired", x.market(1, 0), 1);
        due("another outcome: void", x.market(2, 0), 3);
        due("as it was another", x.voidReason(2, 0), 4);
        due("what depends on that", x.voidReason(3, 0), 3);
        due("the third outcome", x.voidReason(5, 0), 4);
        due("what depends on the expired one", x.market(4, 0), 0);
        due("only its order is left", x.count(2), 1);
        due("which is still open", x.order(2, 3), 1);
        due("paid back", x.trader(1, 0), 500 * COIN);
        due("paid back but for market 1", x.trader(0, 0), 500 * COIN - 7350);
        due("now it can be settled", x.settle(1, 0), 5 * COIN);
    }
}
