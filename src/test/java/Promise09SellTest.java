/** Promise 9: sell. */
public final class Promise09SellTest extends Check {
    public static void main(String[] args) {
        sold();
        wrong();
        states();
        executes();
        end();
    }

    private static void sold() {
        PredictionMaker x = withMarket(60, 2);
        x.buy(3, 0, 1, 10);
        due("four of ten", x.sell(3, 0, 1, 4), 15000 - 8856);
        due("the balance", x.trader(3, 0), 500 * COIN - 8856);
        due("the account", x.market(0, 6), 8856);
        due("what was paid", x.paid(3, 0), 8856);
        due("the shares", x.shares(0, 1), 6);
        due("the holding", x.holding(3, 0, 1), 6);
        due("trades", x.count(4), 2);
        int[] parts = {3, 0, 1, -4, 8856 - 15000, -1};
        for (int what = 0; what < 6; what++) {
            due("part of the trade " + what, x.history(0, what), parts[what]);
        }
        x.buy(2, 0, 0, 40);
        due("a loss", x.sell(3, 0, 1, 6), 5976);
        due("a share sold for nothing", freeShare(), 0);
        due("what stays paid", x.paid(3, 0), 8856 - 5976);
    }

    private static int freeShare() {
        PredictionMaker x = withMarket(1, 2);
        x.buy(0, 0, 0, 9);
        x.buy(1, 0, 1, 1);
        return x.sell(1, 0, 1, 1);
    }

    private static void wrong() {
        PredictionMaker x = withMarket(60, 2);
        x.buy(0, 0, 0, 20);
        x.buy(1, 0, 0, 3);
        String before = stateOf(x);
        refused("trader -1", x, before, x.sell(-1, 0, 0, 1), BAD_ARGUMENT);
        refused("trader 6", x, before, x.sell(6, 0, 0, 1), BAD_ARGUMENT);
        refused("count 0", x, before, x.sell(0, 0, 0, 0), BAD_ARGUMENT);
        refused("count -1", x, before, x.sell(0, 0, 0, -1), BAD_ARGUMENT);
        refused("count 51", x, before, x.sell(0, 0, 0, 51), BAD_ARGUMENT);
        refused("market -1", x, before, x.sell(0, -1, 0, 1), NONE);
        refused("market 1", x, before, x.sell(0, 1, 0, 1), NONE);
        refused("outcome -1", x, before, x.sell(0, 0, -1, 1), NONE);
        refused("outcome 2", x, before, x.sell(0, 0, 2, 1), NONE);
        refused("bad before none", x, before, x.sell(0, 0, 2, 51), BAD_ARGUMENT);
        refused("more than the trader has", x, before, x.sell(1, 0, 0, 4), NOT_ENOUGH);
        refused("of another outcome", x, before, x.sell(1, 0, 1, 1), NOT_ENOUGH);
        refused("who has none", x, before, x.sell(2, 0, 0, 1), NOT_ENOUGH);
        for (int wild : WILD) {
            refused("trader " + wild, x, before, x.sell(wild, 0, 0, 1), BAD_ARGUMENT);
            refused("market " + wild, x, before, x.sell(0, wild, 0, 1), NONE);
            refused("outcome " + wild, x, before, x.sell(0, 0, wild, 1), NONE);
            refused("count " + wild, x, before, x.sell(0, 0, 0, wild), BAD_ARGUMENT);
        }
        due("all of the trader's", x.sell(1, 0, 0, 3) > 0 ? 1 : 0, 1);
    }

    private static void states() {
        PredictionMaker x = withMarket(60, 2);
        x.openMarket(60, 2, 100);
        x.openMarket(60, 2, 200);
        for (int market = 0; market < 3; market++) {
            x.buy(0, market, 0, 5);
        }
        x.cancelMarket(2);
        x.tick(100);
        x.settle(0, 0);
        String before = stateOf(x);
        refused("settled", x, before, x.sell(0, 0, 0, 1), STATE);
        refused("expired", x, before, x.sell(0, 1, 0, 1), STATE);
        refused("void", x, before, x.sell(0, 2, 0, 1), STATE);
        refused("none before state", x, before, x.sell(0, 2, 2, 1), NONE);
        refused("state before not enough", x, before, x.sell(1, 1, 0, 1), STATE);
    }

    private static void executes() {
        PredictionMaker x = withMarket(60, 2);
        x.buy(0, 0, 0, 10);
        x.place(1, 0, 0, 5, 1500);
        due("the order waits", x.order(0, 3), 5);
        due("sold before orders", x.sell(0, 0, 0, 5), 15000 - 7350);
        due("at 1506 nothing is bought", x.order(0, 3), 5);
        x.sell(0, 0, 0, 2);
        due("at 1482 and 1494 two are", x.order(0, 3), 3);
        due("shares", x.shares(0, 0), 5);
    }
}
