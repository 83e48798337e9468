/** Promise 24: paid. */
public final class Promise24PaidTest extends Check {
    public static void main(String[] args) {
        PredictionMaker x = withMarket(60, 2);
        x.openMarket(60, 2, 50);
        due("nothing yet", x.paid(0, 0), 0);
        int bought = x.buy(0, 0, 0, 10);
        due("bought", x.paid(0, 0), bought);
        int sold = x.sell(0, 0, 0, 3);
        due("and sold", x.paid(0, 0), bought - sold);
        x.place(0, 0, 1, 1, 2880);
        due("and by an order", x.paid(0, 0), bought - sold + x.history(0, 4));
        int set = x.buySet(0, 1, 3, 2);
        due("to another market", x.paid(0, 1), set);
        due("another trader", x.paid(1, 0), 0);
        due("trader 6", x.paid(6, 0), NONE);
        due("trader -1", x.paid(-1, 0), NONE);
        due("market 2", x.paid(0, 2), NONE);
        due("market -1", x.paid(0, -1), NONE);
        for (int wild : WILD) {
            due("trader " + wild, x.paid(wild, 0), NONE);
            due("market " + wild, x.paid(0, wild), NONE);
        }
        int paid = x.paid(0, 0);
        x.cancelMarket(1);
        due("void", x.paid(0, 1), set);
        x.tick(100);
        x.settle(0, 0);
        due("settled", x.paid(0, 0), paid);
        got();
        end();
    }

    /** Less than 0 for who got more than was paid. */
    private static void got() {
        PredictionMaker x = withMarket(1, 2);
        x.buy(0, 0, 0, 1);
        x.buy(1, 0, 0, 50);
        x.sell(0, 0, 0, 1);
        due("got more", x.paid(0, 0), -1080);
    }
}
