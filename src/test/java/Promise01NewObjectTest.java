/** Promise 1: a new object is a maker without markets. */
public final class Promise01NewObjectTest extends Check {
    public static void main(String[] args) {
        PredictionMaker x = new PredictionMaker();
        for (int what = 0; what < 8; what++) {
            due("count " + what, x.count(what), 0);
        }
        for (int trader = 0; trader < 6; trader++) {
            for (int what = 0; what < 4; what++) {
                due("trader " + trader + ", " + what, x.trader(trader, what), 0);
            }
            due("paid", x.paid(trader, 0), NONE);
            due("holding", x.holding(trader, 0, 0), NONE);
        }
        for (int market = -1; market < 7; market++) {
            due("no market", x.market(market, 0), NONE);
            due("no shares", x.shares(market, 0), NONE);
            due("no price", x.price(market, 0), NONE);
            due("no order waits", x.waiting(market, 0), NONE);
        }
        due("no order", x.order(0, 0), NONE);
        due("no trade", x.history(0, 0), NONE);
        due("no snapshot", x.restore(), NONE);
        due("the text is empty", x.trade(), -2000);

        PredictionMaker other = new PredictionMaker();
        x.openMarket(1, 2, 3);
        x.deposit(0, 1);
        x.append('0', 1);
        x.save();
        due("objects share no markets", other.count(0), 0);
        due("objects share no money", other.count(6), 0);
        due("objects share no text", other.count(5), 0);
        due("objects share no snapshot", other.restore(), NONE);
        constants();
        end();
    }

    private static void constants() {
        due("NONE", PredictionMaker.NONE, -1000000001);
        due("BAD_ARGUMENT", PredictionMaker.BAD_ARGUMENT, -1000000002);
        due("FULL", PredictionMaker.FULL, -1000000003);
        due("STATE", PredictionMaker.STATE, -1000000004);
        due("NOT_ENOUGH", PredictionMaker.NOT_ENOUGH, -1000000005);
    }
}
