/** Promise 14: tick. */
public final class Promise14TickTest extends Check {
    public static void main(String[] args) {
        time();
        expiry();
        notSettled();
        withConditions();
        end();
    }

    private static void time() {
        PredictionMaker x = withMarket(60, 2);
        due("a tick", x.tick(1), 1);
        due("a hundred", x.tick(100), 101);
        due("the time", x.count(3), 101);
        String before = stateOf(x);
        refused("count 0", x, before, x.tick(0), BAD_ARGUMENT);
        refused("count -1", x, before, x.tick(-1), BAD_ARGUMENT);
        refused("count 101", x, before, x.tick(101), BAD_ARGUMENT);
        for (int wild : WILD) {
            refused("count " + wild, x, before, x.tick(wild), BAD_ARGUMENT);
        }
        for (int i = 2; i < 12; i++) {
            due("beyond all expiries", x.tick(100), 100 * i + 1);
        }
    }

    private static void expiry() {
        PredictionMaker x = new PredictionMaker();
        x.deposit(0, 500);
        x.openMarket(60, 2, 5);
        x.openMarket(60, 2, 4);
        x.openMarket(60, 2, 6);
        x.buy(0, 0, 0, 2);
        x.place(0, 0, 0, 3, 100);
        x.place(0, 2, 0, 3, 100);
        x.tick(3);
        due("not yet", x.market(1, 0), 0);
        x.tick(1);
        due("at its expiry", x.market(1, 0), 1);
        due("the next one not yet", x.market(0, 0), 0);
        due("nor its order", x.order(0, 3), 3);
        x.tick(1);
        due("then it, too", x.market(0, 0), 1);
        due("its order is cancelled", x.order(0, 3), NONE);
        due("other orders stay", x.order(1, 3), 3);
        due("shares stay", x.shares(0, 0), 2);
        due("the account stays", x.market(0, 6), x.paid(0, 0));
        due("open markets", x.count(1), 1);
    }

    private static void notSettled() {
        PredictionMaker x = new PredictionMaker();
        x.deposit(0, 500);
        x.openMarket(60, 2, 5);
        x.openMarket(60, 2, 6);
        int cost = x.buy(0, 0, 0, 2);
        x.tick(14);
        due("still expired", x.market(0, 0), 1);
        due("the money is still paid", x.trader(0, 0), 500 * COIN - cost);
        x.settle(1, 0);
        x.tick(1);
        due("void after ten ticks", x.market(0, 0), 3);
        due("not settled in time", x.voidReason(0, 0), 2);
        due("the money is back", x.trader(0, 0), 500 * COIN);
        due("the account is empty", x.market(0, 6), 0);
        due("what was paid stays", x.paid(0, 0), cost);
        due("shares stay", x.shares(0, 0), 2);
        x.tick(100);
        due("a settled market stays so", x.market(1, 0), 2);
        manyTicks();
    }

    private static void manyTicks() {
        PredictionMaker x = new PredictionMaker();
        x.openMarket(60, 2, 1);
        x.openMarket(60, 2, 90);
        x.openMarket(60, 2, 91);
        x.tick(100);
        due("expired and void within one call", x.market(0, 0), 3);
        due("void at the last tick", x.market(1, 0), 3);
        due("expired only", x.market(2, 0), 1);
    }

    private static void withConditions() {
        PredictionMaker x = new PredictionMaker();
        x.deposit(0, 500);
        x.openMarket(60, 2, 5);
        x.openLinked(60, 2, 5, 0, 0);
        x.openLinked(60, 2, 50, 1, 0);
        x.openLinked(60, 2, 3, 0, 0);
        x.place(0, 2, 0, 1, 1);
        x.tick(13);
        due("its own time came first", x.voidReason(3, 0), 2);
        due("there is no second level", x.voidReason(3, 1), NONE);
        x.tick(2);
        due("not settled in time", x.voidReason(0, 0), 2);
        due("passed over, it keeps the reason 3", x.voidReason(1, 0), 3);
        due("an open market follows", x.market(2, 0), 3);
        due("for the same reason", x.voidReason(2, 0), 3);
        due("its order is cancelled", x.count(2), 0);
        PredictionMaker y = new PredictionMaker();
        y.openMarket(60, 2, 9);
        y.openLinked(60, 2, 5, 0, 0);
        y.tick(15);
        due("the lower market expired later", y.voidReason(1, 0), 2);
        due("and is not void yet", y.market(0, 0), 1);
    }
}
