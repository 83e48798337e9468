/** Promise 7: buy. */
public final class Promise07BuyTest extends Check {
    public static void main(String[] args) {
        bought();
        wrong();
        limits();
        states();
        executes();
        justEnough();
        end();
    }

    /** "NOT_ENOUGH if the cost is greater than the balance": a unit less, the cost, a unit more. */
    private static void justEnough() {
        for (int count : new int[] {1, 2, 49, 50}) {
            int cost = count * 1440 + 6 * count * count;
            for (int off = -1; off <= 1; off++) {
                PredictionMaker x = withMarket(60, 2);
                setBalance(x, 2, cost + off);
                String before = stateOf(x);
                String call = count + " shares with " + off + " units more";
                if (off < 0) {
                    refused(call, x, before, x.buy(2, 0, 0, count), NOT_ENOUGH);
                } else {
                    due(call, x.buy(2, 0, 0, count), cost);
                    due(call + ": what is left", x.trader(2, 0), off);
                }
            }
        }
        forNothing();
    }

    /** A cost of 0 is greater than a balance below 0, and not greater than a balance of 0. */
    private static void forNothing() {
        for (int balance = -1; balance <= 1; balance++) {
            PredictionMaker x = withMarket(1, 2);
            pile(x, 0, 20, 0);
            if (balance < 0) {
                owe(x, 4, 5, 1);
            } else {
                setBalance(x, 4, balance);
            }
            String before = stateOf(x);
            if (balance < 0) {
                refused("a free share, owing a unit", x, before, x.buy(4, 0, 1, 1), NOT_ENOUGH);
                refused("a free set, owing a unit", x, before, x.buySet(4, 0, 2, 1), NOT_ENOUGH);
            } else {
                due("a free share with " + balance, x.buy(4, 0, 1, 1), 0);
                due("a free set with " + balance, x.buySet(4, 0, 2, 1), 0);
            }
            due("the balance stays", x.trader(4, 0), balance);
        }
    }

    private static void bought() {
        PredictionMaker x = withMarket(60, 2);
        due("ten shares", x.buy(3, 0, 1, 10), 15000);
        due("the balance", x.trader(3, 0), 500 * COIN - 15000);
        due("the account", x.market(0, 6), 15000);
        due("what was paid", x.paid(3, 0), 15000);
        due("the shares", x.shares(0, 1), 10);
        due("the holding", x.holding(3, 0, 1), 10);
        due("nobody else's", x.holding(2, 0, 1), 0);
        due("no other outcome", x.shares(0, 0), 0);
        due("trades", x.count(4), 1);
        int[] parts = {3, 0, 1, 10, 15000, -1};
        for (int what = 0; what < 6; what++) {
            due("part of the trade " + what, x.history(0, what), parts[what]);
        }
        due("the next share is dearer", x.buy(2, 0, 1, 1), 1566);
        due("fifty at once", x.buy(2, 0, 0, 50), x.paid(2, 0) - 1566);
    }

    private static void wrong() {
        PredictionMaker x = withMarket(60, 2);
        String before = stateOf(x);
        refused("trader -1", x, before, x.buy(-1, 0, 0, 1), BAD_ARGUMENT);
        refused("trader 6", x, before, x.buy(6, 0, 0, 1), BAD_ARGUMENT);
        refused("count 0", x, before, x.buy(0, 0, 0, 0), BAD_ARGUMENT);
        refused("count -1", x, before, x.buy(0, 0, 0, -1), BAD_ARGUMENT);
        refused("count 51", x, before, x.buy(0, 0, 0, 51), BAD_ARGUMENT);
        refused("market -1", x, before, x.buy(0, -1, 0, 1), NONE);
        refused("market 1", x, before, x.buy(0, 1, 0, 1), NONE);
        refused("outcome -1", x, before, x.buy(0, 0, -1, 1), NONE);
        refused("outcome 2", x, before, x.buy(0, 0, 2, 1), NONE);
        refused("bad before none", x, before, x.buy(0, 9, 0, 51), BAD_ARGUMENT);
        for (int wild : WILD) {
            refused("trader " + wild, x, before, x.buy(wild, 0, 0, 1), BAD_ARGUMENT);
            refused("market " + wild, x, before, x.buy(0, wild, 0, 1), NONE);
            refused("outcome " + wild, x, before, x.buy(0, 0, wild, 1), NONE);
            refused("count " + wild, x, before, x.buy(0, 0, 0, wild), BAD_ARGUMENT);
        }
    }

    private static void limits() {
        PredictionMaker x = withMarket(60, 2);
        x.withdraw(4, 500 * COIN - 1446);
        due("all the money", x.buy(4, 0, 0, 1), 1446);
        due("nothing is left", x.trader(4, 0), 0);
        x.withdraw(5, 500 * COIN - 1457);
        String before = stateOf(x);
        refused("a unit too little", x, before, x.buy(5, 0, 0, 1), NOT_ENOUGH);
        fill(x, 0, 0, 0, 351);
        before = stateOf(x);
        refused("401 shares", x, before, x.buy(1, 0, 0, 50), FULL);
        refused("full before too dear", x, before, x.buy(5, 0, 0, 50), FULL);
        due("400 shares", x.buy(1, 0, 0, 49), 49 * COIN);
        due("one more", x.buy(1, 0, 0, 1), FULL);
        due("a free share", x.buy(4, 0, 1, 1), 0);
        due("is held", x.holding(4, 0, 1), 1);
    }

    private static void states() {
        PredictionMaker x = withMarket(60, 2);
        x.openMarket(60, 2, 100);
        x.openMarket(60, 2, 200);
        x.cancelMarket(2);
        x.tick(100);
        x.settle(0, 0);
        String before = stateOf(x);
        refused("settled", x, before, x.buy(0, 0, 0, 1), STATE);
        refused("expired", x, before, x.buy(0, 1, 0, 1), STATE);
        refused("void", x, before, x.buy(0, 2, 0, 1), STATE);
        refused("none before state", x, before, x.buy(0, 2, 2, 1), NONE);
        refused("bad before state", x, before, x.buy(0, 2, 0, 51), BAD_ARGUMENT);
        x.withdraw(1, 500 * COIN);
        due("state before too dear", x.buy(1, 1, 0, 50), STATE);
    }

    private static void executes() {
        PredictionMaker x = withMarket(60, 2);
        x.openMarket(60, 2, 100);
        x.place(1, 0, 1, 2, 1410);
        due("the order waits", x.order(0, 5), 1);
        due("the cost is that before orders", x.buy(0, 0, 0, 3), 4374);
        due("now it costs 1410", x.holding(1, 0, 1), 1);
        due("then more", x.cost(0, 1, 1), 1422);
        due("a trade for the order", x.history(0, 5), 0);
        due("at its cost", x.history(0, 4), 1410);
        x.buy(0, 1, 0, 50);
        due("another market's orders stay", x.order(0, 3), 1);
    }
}
