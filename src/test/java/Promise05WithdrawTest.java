/** Promise 5: withdraw. */
public final class Promise05WithdrawTest extends Check {
    public static void main(String[] args) {
        PredictionMaker x = new PredictionMaker();
        x.deposit(1, 10);
        due("a unit", x.withdraw(1, 1), 28799);
        String before = stateOf(x);
        refused("trader -1", x, before, x.withdraw(-1, 1), BAD_ARGUMENT);
        refused("trader 6", x, before, x.withdraw(6, 1), BAD_ARGUMENT);
        refused("units 0", x, before, x.withdraw(1, 0), BAD_ARGUMENT);
        refused("units -1", x, before, x.withdraw(1, -1), BAD_ARGUMENT);
        refused("units 5000001", x, before, x.withdraw(1, 5000001), BAD_ARGUMENT);
        refused("a unit too many", x, before, x.withdraw(1, 28800), NOT_ENOUGH);
        refused("the most units", x, before, x.withdraw(1, 5000000), NOT_ENOUGH);
        refused("of another", x, before, x.withdraw(0, 1), NOT_ENOUGH);
        for (int wild : WILD) {
            refused("trader " + wild, x, before, x.withdraw(wild, 1), BAD_ARGUMENT);
            refused("units " + wild, x, before, x.withdraw(1, wild), BAD_ARGUMENT);
        }
        due("all", x.withdraw(1, 28799), 0);
        due("the balance", x.trader(1, 0), 0);
        due("the sum of balances", x.count(6), 0);
        due("nothing is left", x.withdraw(1, 1), NOT_ENOUGH);
        all();
        negative();
        end();
    }

    private static void all() {
        PredictionMaker x = new PredictionMaker();
        x.deposit(0, 500);
        x.deposit(0, 500);
        x.deposit(0, 500);
        x.withdraw(0, 1696);
        x.deposit(0, 236);
        due("almost 5000000", x.trader(0, 0), 4997984);
        due("all of it", x.withdraw(0, 4997984), 0);
    }

    /** A trader who sold dear what became void owes money. */
    private static void negative() {
        PredictionMaker x = withMarket(1, 2);
        x.buy(0, 0, 0, 1);
        x.buy(1, 0, 0, 50);
        x.sell(0, 0, 0, 1);
        due("bought for 1800, sold for 2880", x.paid(0, 0), -1080);
        x.withdraw(0, x.trader(0, 0));
        x.cancelMarket(0);
        due("a balance below 0", x.trader(0, 0), -1080);
        due("nothing to withdraw", x.withdraw(0, 1), NOT_ENOUGH);
        due("a deposit pays it back", x.deposit(0, 1), 1800);
    }
}
