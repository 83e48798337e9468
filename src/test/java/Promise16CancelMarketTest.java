/** Promise 16: cancelMarket. */
public final class Promise16CancelMarketTest extends Check {
    public static void main(String[] args) {
        cancelled();
        followers();
        wrong();
        end();
    }

    private static void cancelled() {
        PredictionMaker x = withMarket(1, 2);
        x.openMarket(60, 2, 90);
        x.buy(0, 0, 0, 1);
        x.buy(1, 0, 0, 50);
        x.sell(0, 0, 0, 1);
        int paid = x.paid(1, 0);
        x.place(2, 0, 1, 3, 1);
        x.place(2, 1, 1, 3, 1);
        due("one market", x.cancelMarket(0), 1);
        due("is void", x.market(0, 0), 3);
        due("as it was cancelled", x.voidReason(0, 0), 1);
        due("who had paid gets it back", x.trader(1, 0), 500 * COIN);
        due("who had got more pays it back", x.trader(0, 0), 500 * COIN);
        due("the account is empty", x.market(0, 6), 0);
        due("what was paid stays", x.paid(1, 0), paid);
        due("what was got stays", x.paid(0, 0), -1080);
        due("shares stay", x.shares(0, 0), 50);
        due("holdings stay", x.holding(1, 0, 0), 50);
        due("it has no outcome", x.market(0, 9), -1);
        due("another market's order stays", x.count(2), 1);
        due("open markets", x.count(1), 1);
        x.tick(90);
        due("an expired one", x.cancelMarket(1), 1);
        due("for the same reason", x.voidReason(1, 0), 1);
    }

    private static void followers() {
        PredictionMaker x = withMarket(60, 2);
        x.openLinked(60, 2, 50, 0, 0);
        x.openLinked(60, 2, 90, 1, 1);
        x.openMarket(60, 2, 50);
        x.openLinked(60, 2, 90, 0, 1);
        x.openLinked(60, 2, 50, 4, 1);
        x.buy(3, 2, 0, 9);
        x.place(3, 2, 0, 1, 1);
        x.place(3, 3, 0, 1, 1);
        x.cancelMarket(5);
        x.tick(20);
        due("with all that depend on it", x.cancelMarket(0), 4);
        due("its own reason", x.voidReason(0, 0), 1);
        due("by one", x.voidReason(1, 0), 3);
        due("by two", x.voidReason(2, 0), 3);
        due("whatever the outcome", x.voidReason(4, 0), 3);
        due("one was void already", x.voidReason(5, 0), 1);
        due("another stays open", x.market(3, 0), 0);
        due("with its order", x.count(2), 1);
        due("all is paid back", x.trader(3, 0), 500 * COIN);
        PredictionMaker y = withMarket(60, 2);
        y.openLinked(60, 2, 50, 0, 0);
        due("the market of the condition", y.cancelMarket(1), 1);
        due("stays open", y.market(0, 0), 0);
        expiredFollower();
    }

    private static void expiredFollower() {
        PredictionMaker x = withMarket(60, 2);
        x.openLinked(60, 2, 95, 0, 0);
        x.tick(95);
        due("an expired market follows, too", x.cancelMarket(0), 2);
        due("it is void", x.market(1, 0), 3);
    }

    private static void wrong() {
        PredictionMaker x = withMarket(60, 2);
        x.openMarket(60, 2, 150);
        x.buy(0, 0, 0, 5);
        x.buy(0, 1, 0, 5);
        x.tick(100);
        x.settle(0, 1);
        x.cancelMarket(1);
        String before = stateOf(x);
        refused("settled", x, before, x.cancelMarket(0), STATE);
        refused("void", x, before, x.cancelMarket(1), STATE);
        refused("market 2", x, before, x.cancelMarket(2), NONE);
        refused("market -1", x, before, x.cancelMarket(-1), NONE);
        for (int wild : WILD) {
            refused("market " + wild, x, before, x.cancelMarket(wild), NONE);
        }
    }
}
