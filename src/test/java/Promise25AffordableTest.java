/** Promise 25: affordable. */
public final class Promise25AffordableTest extends Check {
    public static void main(String[] args) {
        PredictionMaker x = withMarket(60, 2);
        due("at most 50", x.affordable(0, 0, 0), 50);
        x.withdraw(0, 500 * COIN - 87000);
        due("just 50", x.affordable(0, 0, 0), 50);
        x.withdraw(0, 1);
        due("a unit less", x.affordable(0, 0, 0), 49);
        x.withdraw(0, 86999 - 1446);
        due("just one", x.affordable(0, 0, 1), 1);
        x.withdraw(0, 1);
        due("none", x.affordable(0, 0, 1), 0);
        due("asking changes nothing", x.count(4), 0);
        everyNumber();
        upTo400();
        limits();
        states();
        wrong();
        end();
    }

    /** "... the greatest number": for each from 0 to 50, with just its cost, and a unit less. */
    private static void everyNumber() {
        for (int number = 0; number <= 50; number++) {
            PredictionMaker x = withMarket(60, 2);
            int cost = number * 1440 + 6 * number * number;
            setBalance(x, 3, cost);
            due("with " + cost, x.affordable(3, 0, 1), number);
            if (number > 0) {
                x.withdraw(3, 1);
                due("with a unit less than " + cost, x.affordable(3, 0, 1), number - 1);
            }
            isTrue("it can be bought", number < 2 || x.buy(3, 0, 1, number - 1) > 0);
        }
        for (int balance = -1; balance <= 1; balance++) {
            PredictionMaker x = withMarket(1, 2);
            pile(x, 0, 60, 0);
            if (balance < 0) {
                owe(x, 4, 5, 1);
            } else {
                setBalance(x, 4, balance);
            }
            due("free shares with a balance of " + balance, x.affordable(4, 0, 1), balance < 0 ? 0 : 50);
        }
    }

    /** No more than there can be: at 349, 350, 351, 399 and 400 shares. */
    private static void upTo400() {
        for (int shares : new int[] {349, 350, 351, 398, 399, 400}) {
            PredictionMaker x = withMarket(60, 2);
            pile(x, 0, shares, 0);
            due("at " + shares, x.affordable(5, 0, 0), Math.min(50, 400 - shares));
        }
    }

    private static void limits() {
        PredictionMaker x = withMarket(60, 2);
        fill(x, 0, 0, 0, 351);
        due("49 are left", x.affordable(1, 0, 0), 49);
        x.withdraw(2, 500 * COIN);
        due("free shares", x.affordable(2, 0, 1), 50);
        fill(x, 0, 0, 0, 400);
        due("none is left", x.affordable(1, 0, 0), 0);
        PredictionMaker y = withMarket(1, 2);
        y.openMarket(1, 2, 100);
        y.buy(0, 0, 0, 1);
        y.buy(1, 0, 0, 50);
        y.sell(0, 0, 0, 1);
        y.withdraw(0, y.trader(0, 0));
        y.cancelMarket(0);
        y.buy(1, 1, 0, 50);
        due("who owes cannot have free ones", y.affordable(0, 1, 1), 0);
        y.deposit(0, 1);
        due("who does not can", y.affordable(0, 1, 1), 50);
        y.withdraw(0, 361);
        due("49 cost 360, 50 cost 1440", y.affordable(0, 1, 1), 49);
    }

    private static void states() {
        PredictionMaker x = withMarket(60, 2);
        x.openMarket(60, 2, 200);
        x.cancelMarket(1);
        due("void", x.affordable(0, 1, 0), 50);
        x.tick(100);
        due("expired", x.affordable(0, 0, 0), 50);
        x.settle(0, 0);
        due("settled", x.affordable(0, 0, 0), 50);
    }

    private static void wrong() {
        PredictionMaker x = withMarket(60, 2);
        due("trader 6", x.affordable(6, 0, 0), NONE);
        due("trader -1", x.affordable(-1, 0, 0), NONE);
        due("market 1", x.affordable(0, 1, 0), NONE);
        due("market -1", x.affordable(0, -1, 0), NONE);
        due("outcome 2", x.affordable(0, 0, 2), NONE);
        due("outcome -1", x.affordable(0, 0, -1), NONE);
        for (int wild : WILD) {
            due("trader " + wild, x.affordable(wild, 0, 0), NONE);
            due("market " + wild, x.affordable(0, wild, 0), NONE);
            due("outcome " + wild, x.affordable(0, 0, wild), NONE);
        }
    }
}
