/** Promise 8: buySet. */
public final class Promise08BuySetTest extends Check {
    public static void main(String[] args) {
        bought();
        wrong();
        limits();
        eachCanBeFull();
        states();
        executes();
        justEnough();
        just400();
        end();
    }

    /** "NOT_ENOUGH if the cost is greater than the balance": that of all, not of one after the other. */
    private static void justEnough() {
        for (int set = 1; set < 8; set++) {
            PredictionMaker y = withMarket(60, 3);
            int cost = y.buySet(2, 0, set, 9);
            for (int off = -1; off <= 1; off++) {
                PredictionMaker x = withMarket(60, 3);
                setBalance(x, 2, cost + off);
                String before = stateOf(x);
                String call = "set " + set + " with " + off + " units more";
                if (off < 0) {
                    refused(call, x, before, x.buySet(2, 0, set, 9), NOT_ENOUGH);
                } else {
                    due(call, x.buySet(2, 0, set, 9), cost);
                    due(call + ": what is left", x.trader(2, 0), off);
                }
            }
        }
    }

    /** "FULL if there would be more than 400 shares of an outcome": 399, 400 and 401 of each. */
    private static void just400() {
        for (int outcome = 0; outcome < 3; outcome++) {
            for (int count : new int[] {1, 2, 3, 50}) {
                for (int after = 399; after <= 401; after++) {
                    PredictionMaker x = withMarket(60, 3);
                    fill(x, 0, 0, outcome, after - count);
                    String before = stateOf(x);
                    String call = "to " + after + " of outcome " + outcome;
                    int got = x.buySet(1, 0, 7, count);
                    if (after > 400) {
                        refused(call, x, before, got, FULL);
                    } else {
                        due(call, got, count * COIN);
                        due(call + ": shares", x.shares(0, outcome), after);
                    }
                }
            }
        }
    }

    private static void bought() {
        PredictionMaker x = withMarket(60, 3);
        int first = x.cost(0, 0, 4);
        due("two of three outcomes", x.buySet(2, 0, 5, 4), 7808);
        due("the balance", x.trader(2, 0), 500 * COIN - 7808);
        due("the account", x.market(0, 6), 7808);
        due("what was paid", x.paid(2, 0), 7808);
        due("shares of outcome 0", x.shares(0, 0), 4);
        due("shares of outcome 1", x.shares(0, 1), 0);
        due("shares of outcome 2", x.shares(0, 2), 4);
        due("held of outcome 2", x.holding(2, 0, 2), 4);
        due("two trades", x.count(4), 2);
        int[] latest = {2, 0, 2, 4, 7808 - first, -1};
        int[] before = {2, 0, 0, 4, first, -1};
        for (int what = 0; what < 6; what++) {
            due("the latest trade " + what, x.history(0, what), latest[what]);
            due("the trade before " + what, x.history(1, what), before[what]);
        }
        due("a set of all costs coins", x.buySet(1, 0, 7, 50), 50 * COIN);
        due("a set of one is a buying", x.cost(0, 1, 9), x.buySet(1, 0, 2, 9));
    }

    private static void wrong() {
        PredictionMaker x = withMarket(60, 3);
        String before = stateOf(x);
        refused("trader -1", x, before, x.buySet(-1, 0, 1, 1), BAD_ARGUMENT);
        refused("trader 6", x, before, x.buySet(6, 0, 1, 1), BAD_ARGUMENT);
        refused("count 0", x, before, x.buySet(0, 0, 1, 0), BAD_ARGUMENT);
        refused("count 51", x, before, x.buySet(0, 0, 1, 51), BAD_ARGUMENT);
        refused("market -1", x, before, x.buySet(0, -1, 1, 1), NONE);
        refused("market 1", x, before, x.buySet(0, 1, 1, 1), NONE);
        refused("no outcome", x, before, x.buySet(0, 0, 0, 1), BAD_ARGUMENT);
        refused("outcome 3", x, before, x.buySet(0, 0, 8, 1), BAD_ARGUMENT);
        refused("outcomes 0 and 3", x, before, x.buySet(0, 0, 9, 1), BAD_ARGUMENT);
        refused("outcome 31", x, before, x.buySet(0, 0, Integer.MIN_VALUE + 1, 1), BAD_ARGUMENT);
        refused("all bits", x, before, x.buySet(0, 0, -1, 1), BAD_ARGUMENT);
        refused("bad count before none", x, before, x.buySet(0, 1, 1, 51), BAD_ARGUMENT);
        refused("none before a bad set", x, before, x.buySet(0, 1, 0, 1), NONE);
        for (int wild : WILD) {
            refused("trader " + wild, x, before, x.buySet(wild, 0, 1, 1), BAD_ARGUMENT);
            refused("market " + wild, x, before, x.buySet(0, wild, 1, 1), NONE);
            refused("set " + wild, x, before, x.buySet(0, 0, wild, 1), BAD_ARGUMENT);
            refused("count " + wild, x, before, x.buySet(0, 0, 1, wild), BAD_ARGUMENT);
        }
    }

    private static void limits() {
        PredictionMaker x = withMarket(60, 3);
        x.withdraw(4, 500 * COIN - COIN);
        x.withdraw(5, 500 * COIN - COIN + 1);
        String before = stateOf(x);
        refused("a unit too little", x, before, x.buySet(5, 0, 7, 1), NOT_ENOUGH);
        due("just enough", x.buySet(4, 0, 7, 1), COIN);
        due("nothing is left", x.trader(4, 0), 0);
        fill(x, 0, 0, 1, 380);
        before = stateOf(x);
        refused("401 shares of one", x, before, x.buySet(0, 0, 3, 21), FULL);
        refused("full before too dear", x, before, x.buySet(4, 0, 7, 21), FULL);
        due("but not of the others", x.buySet(0, 0, 5, 21) >= 0 ? 1 : 0, 1);
        due("400 shares", x.buySet(0, 0, 3, 20) >= 0 ? 1 : 0, 1);
        due("are there", x.shares(0, 1), 400);
    }

    private static void eachCanBeFull() {
        for (int outcome = 0; outcome < 4; outcome++) {
            PredictionMaker x = withMarket(60, 4);
            fill(x, 0, 0, outcome, 400);
            String before = stateOf(x);
            refused("outcome " + outcome, x, before, x.buySet(1, 0, 15, 1), FULL);
            int others = 15 - (1 << outcome);
            due("the others", x.buySet(1, 0, others, 1) >= 0 ? 1 : 0, 1);
        }
    }

    private static void states() {
        PredictionMaker x = withMarket(60, 2);
        x.openMarket(60, 2, 100);
        x.openMarket(60, 2, 200);
        x.cancelMarket(2);
        x.tick(100);
        x.settle(0, 0);
        String before = stateOf(x);
        refused("settled", x, before, x.buySet(0, 0, 3, 1), STATE);
        refused("expired", x, before, x.buySet(0, 1, 3, 1), STATE);
        refused("void", x, before, x.buySet(0, 2, 3, 1), STATE);
        refused("a bad set before state", x, before, x.buySet(0, 1, 4, 1), BAD_ARGUMENT);
    }

    /** Orders are executed once, behind all outcomes of the set. */
    private static void executes() {
        PredictionMaker x = withMarket(60, 3);
        x.place(1, 0, 1, 1, 960);
        due("968 is above the limit", x.order(0, 5), 1);
        due("after outcome 0 alone it could be bought", x.buySet(0, 0, 3, 1), 1928);
        due("but now it is dearer", x.order(0, 5), 1);
        due("two trades", x.count(4), 2);
        x.buySet(0, 0, 5, 4);
        due("after two others it is bought", x.holding(1, 0, 1), 1);
        due("as the last trade", x.history(0, 5), 0);
    }
}
