/** Promise 4: deposit. */
public final class Promise04DepositTest extends Check {
    public static void main(String[] args) {
        PredictionMaker x = new PredictionMaker();
        due("a coin", x.deposit(0, 1), 2880);
        due("500 coins more", x.deposit(0, 500), 501 * COIN);
        due("another trader", x.deposit(5, 20), 20 * COIN);
        due("the balance", x.trader(0, 0), 501 * COIN);
        due("the others have none", x.trader(1, 0), 0);
        String before = stateOf(x);
        refused("trader -1", x, before, x.deposit(-1, 1), BAD_ARGUMENT);
        refused("trader 6", x, before, x.deposit(6, 1), BAD_ARGUMENT);
        refused("coins 0", x, before, x.deposit(0, 0), BAD_ARGUMENT);
        refused("coins -1", x, before, x.deposit(0, -1), BAD_ARGUMENT);
        refused("coins 501", x, before, x.deposit(0, 501), BAD_ARGUMENT);
        for (int wild : WILD) {
            refused("trader " + wild, x, before, x.deposit(wild, 1), BAD_ARGUMENT);
            refused("coins " + wild, x, before, x.deposit(0, wild), BAD_ARGUMENT);
        }
        full();
        executes();
        end();
    }

    private static void full() {
        PredictionMaker x = new PredictionMaker();
        for (int i = 0; i < 3; i++) {
            x.deposit(2, 500);
        }
        due("above 5000000", x.deposit(2, 237), FULL);
        due("just below", x.deposit(2, 236), 1736 * COIN);
        String before = stateOf(x);
        refused("one coin more", x, before, x.deposit(2, 1), FULL);
        refused("bad before full", x, before, x.deposit(2, 501), BAD_ARGUMENT);
        x.withdraw(2, 1736 * COIN - 5000000 + 5 * COIN);
        due("exactly 5000000", x.deposit(2, 5), 5000000);
        due("above it", x.deposit(2, 1), FULL);
    }

    /** All markets, in ascending order, also those of other traders' orders. */
    private static void executes() {
        PredictionMaker x = new PredictionMaker();
        x.openMarket(60, 2, 50);
        x.openMarket(60, 2, 50);
        x.place(0, 1, 0, 1, 2880);
        x.place(0, 0, 1, 1, 2000);
        due("without money nothing is bought", x.count(4), 0);
        due("the balance before orders", x.deposit(0, 1), 2880);
        due("one share in market 1 is left", x.count(2), 1);
        due("market 0 was first", x.history(0, 1), 0);
        due("though its order was later", x.history(0, 5), 1);
        due("the balance after orders", x.trader(0, 0), 2880 - 1446);
        due("the next deposit", x.deposit(0, 1), 2 * 2880 - 1446);
        due("no order is left", x.count(2), 0);
        due("then market 1", x.history(0, 1), 1);

        x.place(1, 0, 0, 1, 1440);
        due("1434 would be the price of outcome 0", x.cost(0, 0, 1), 1434);
        due("it waits for money", x.order(2, 5), 2);
        x.deposit(3, 1);
        due("another's deposit does not help", x.order(2, 5), 2);
        x.openMarket(60, 2, 50);
        x.buy(3, 2, 0, 1);
        x.tick(50);
        x.settle(2, 0);
        due("settling executes nothing", x.count(2), 0);
    }
}
