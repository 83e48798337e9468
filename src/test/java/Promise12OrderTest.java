/** Promise 12: order. */
public final class Promise12OrderTest extends Check {
    public static void main(String[] args) {
        PredictionMaker x = withMarket(60, 3);
        x.openMarket(60, 2, 100);
        x.place(4, 1, 1, 9, 1000);
        x.place(2, 0, 2, 50, 977);
        due("a first share", x.holding(2, 0, 2), 1);
        int[] first = {4, 1, 1, 9, 1000, 1};
        int[] second = {2, 0, 2, 49, 977, 1};
        for (int what = 0; what < 6; what++) {
            due("part " + what, x.order(0, what), first[what]);
            due("of the second, " + what, x.order(1, what), second[what]);
        }
        due("what -1", x.order(0, -1), BAD_ARGUMENT);
        due("what 6", x.order(0, 6), BAD_ARGUMENT);
        due("order -1", x.order(-1, 0), NONE);
        due("order 2", x.order(2, 0), NONE);
        due("none before bad", x.order(2, 6), NONE);
        for (int wild : WILD) {
            due("what " + wild, x.order(0, wild), BAD_ARGUMENT);
            due("order " + wild, x.order(wild, 0), NONE);
        }
        why();
        atMostShares();
        firstThatApplies();
        end();
    }

    /**
     * "... the first of these that applies; 0 if it can": each of the three at its edge, a unit below
     * and a unit above, and all of them together. Money comes by selling in another market and goes
     * by withdrawing, as neither executes the order.
     */
    private static void firstThatApplies() {
        for (int shares = 398; shares <= 400; shares++) {
            int cost = 1446 - 12 * (400 - shares);
            for (int limit = cost - 1; limit <= cost + 1; limit++) {
                for (int balance = cost - 1; balance <= cost + 1; balance++) {
                    PredictionMaker x = withMarket(60, 2);
                    x.openMarket(60, 2, 100);
                    pile(x, 0, 400, shares);
                    x.buy(5, 1, 0, 3);
                    setBalance(x, 5, 0);
                    x.place(5, 0, 1, 1, limit);
                    x.sell(5, 1, 0, 3);
                    x.withdraw(5, 4374 - balance);
                    int due = limit < cost ? 1 : balance < cost ? 2 : shares == 400 ? 3 : 0;
                    due("limit " + limit + ", balance " + balance + ", shares " + shares,
                            x.order(0, 5), due);
                }
            }
        }
    }

    private static void why() {
        PredictionMaker x = withMarket(60, 2);
        x.openMarket(60, 2, 100);
        x.buy(0, 1, 0, 9);
        x.withdraw(0, x.trader(0, 0));
        x.place(0, 0, 0, 1, 1445);
        due("above the limit and the balance", x.order(0, 5), 1);
        x.place(0, 0, 0, 1, 1446);
        due("above the balance", x.order(1, 5), 2);
        x.sell(0, 1, 0, 9);
        due("money from another market: it could be executed", x.order(1, 5), 0);
        due("but is not yet", x.order(1, 3), 1);
        due("the one above the limit cannot", x.order(0, 5), 1);
        x.withdraw(0, x.trader(0, 0) - 1446);
        due("just enough", x.order(1, 5), 0);
        x.withdraw(0, 1);
        due("a unit too little", x.order(1, 5), 2);
    }

    private static void atMostShares() {
        PredictionMaker x = withMarket(60, 2);
        fill(x, 0, 0, 0, 400);
        x.place(1, 0, 0, 1, 2880);
        due("400 shares", x.order(0, 5), 3);
        x.place(1, 0, 0, 1, 2879);
        due("400 shares, above the limit", x.order(1, 5), 1);
        x.withdraw(2, 500 * COIN - COIN + 1);
        x.place(2, 0, 0, 1, 2880);
        due("400 shares, above the balance", x.order(2, 5), 2);
        x.sell(0, 0, 0, 1);
        due("a share was sold and bought again", x.holding(1, 0, 0), 1);
        due("by the first order", x.order(0, 0), NONE);
        due("400 again", x.shares(0, 0), 400);
        x.withdraw(0, x.trader(0, 0));
        x.openMarket(60, 2, 100);
        x.buy(1, 1, 0, 1);
        due("399 and an order", x.order(2, 5), 2);
    }
}
