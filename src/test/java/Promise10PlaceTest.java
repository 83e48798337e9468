/** Promise 10: place, and how orders are executed. */
public final class Promise10PlaceTest extends Check {
    public static void main(String[] args) {
        placed();
        inTurn();
        byBalance();
        allAtOnce();
        wrong();
        states();
        full();
        end();
    }

    private static void placed() {
        PredictionMaker x = withMarket(60, 2);
        due("the first order", x.place(3, 0, 1, 7, 1380), 0);
        int[] parts = {3, 0, 1, 7, 1380, 1};
        for (int what = 0; what < 6; what++) {
            due("part " + what, x.order(0, what), parts[what]);
        }
        due("open orders", x.count(2), 1);
        due("nothing bought", x.count(4), 0);
        due("a limit just met", x.place(2, 0, 0, 1, 1446), 1);
        due("it is bought and closed", x.order(1, 0), NONE);
        due("by the trader", x.holding(2, 0, 0), 1);
        due("for 1446", x.paid(2, 0), 1446);
        int[] trade = {2, 0, 0, 1, 1446, 1};
        for (int what = 0; what < 6; what++) {
            due("part of the trade " + what, x.history(0, what), trade[what]);
        }
        due("an order bought in part", x.place(2, 0, 0, 9, 1475), 2);
        due("at 1458 and 1470", x.order(2, 3), 7);
        due("each share is a trade", x.count(4), 3);
        due("the first is still at 1410", x.order(0, 3), 7);
        due("one at 1410", x.place(2, 0, 1, 1, 1410), 3);
        due("makes room for one more of outcome 0", x.order(2, 3), 6);
        due("bought at 1470", x.history(0, 4), 1470);
        due("behind it", x.history(1, 5), 3);
    }

    /** The highest limit goes first, of equal ones the lowest number; each share is a turn. */
    private static void inTurn() {
        PredictionMaker x = withMarket(60, 2);
        x.buy(3, 0, 0, 50);
        x.place(0, 0, 0, 2, 1500);
        x.place(1, 0, 0, 2, 1600);
        x.place(2, 0, 0, 1, 1600);
        due("all wait", x.count(2), 3);
        x.sell(3, 0, 0, 50);
        due("all are bought", x.count(2), 0);
        int[] orders = {0, 0, 2, 1, 1, -1};
        int[] costs = {1494, 1482, 1470, 1458, 1446, -87000};
        for (int i = 0; i < 6; i++) {
            due("the order of trade " + i, x.history(i, 5), orders[i]);
            due("the cost of trade " + i, x.history(i, 4), costs[i]);
        }
        bothWays();
        whoCan();
    }

    /** Orders for both outcomes make one another cheaper, share by share. */
    private static void bothWays() {
        PredictionMaker x = withMarket(60, 2);
        x.place(0, 0, 0, 4, 1440);
        x.place(1, 0, 1, 3, 1450);
        due("trades", x.count(4), 6);
        int[] orders = {0, 1, 0, 1, 0, 1};
        int[] costs = {1434, 1446, 1434, 1446, 1434, 1446};
        for (int i = 0; i < 6; i++) {
            due("the order of trade " + i, x.history(i, 5), orders[i]);
            due("the cost of trade " + i, x.history(i, 4), costs[i]);
        }
        due("one is left of the first", x.order(0, 3), 1);
    }

    /** One that cannot be executed lets the next have its turn. */
    private static void whoCan() {
        PredictionMaker x = new PredictionMaker();
        x.openMarket(60, 2, 100);
        x.place(0, 0, 0, 2, 1800);
        x.place(1, 0, 0, 2, 2000);
        x.place(2, 0, 0, 1, 2000);
        due("nobody has money", x.count(4), 0);
        x.deposit(2, 1);
        due("trader 2 has", x.history(0, 5), 2);
        x.deposit(0, 1);
        due("then trader 0", x.history(0, 5), 0);
        due("who lacks it again", x.order(0, 5), 2);
        x.deposit(1, 1);
        due("then trader 1", x.history(0, 5), 1);
        due("who lacks it again, too", x.order(1, 5), 2);
        due("one share each", x.shares(0, 0), 3);
    }

    private static void byBalance() {
        PredictionMaker x = withMarket(1, 2);
        x.buy(0, 0, 0, 50);
        x.withdraw(1, 500 * COIN);
        due("shares that cost nothing need no money", x.place(1, 0, 1, 40, 1), 0);
        due("all are bought", x.holding(1, 0, 1), 40);
        due("for nothing", x.paid(1, 0), 0);
        due("no order is left", x.count(2), 0);
        owing();
    }

    /** An order with the cost 0 needs a balance that is not negative. */
    private static void owing() {
        PredictionMaker x = withMarket(1, 2);
        x.openMarket(1, 2, 100);
        x.buy(0, 0, 0, 1);
        x.buy(1, 0, 0, 50);
        x.sell(0, 0, 0, 1);
        x.withdraw(0, x.trader(0, 0));
        x.cancelMarket(0);
        due("the trader owes", x.trader(0, 0), -1080);
        x.buy(1, 1, 0, 50);
        due("the other outcome is free", x.cost(1, 1, 1), 0);
        due("an order for it", x.place(0, 1, 1, 1, 1), 0);
        due("lacks money", x.order(0, 5), 2);
        due("so does a buying", x.buy(0, 1, 1, 1), NOT_ENOUGH);
        x.deposit(0, 1);
        due("and is bought after a deposit", x.holding(0, 1, 1), 1);
    }

    /** Sixteen orders of fifty shares, all bought by one call. */
    private static void allAtOnce() {
        PredictionMaker x = new PredictionMaker();
        x.openMarket(60, 2, 100);
        for (int i = 0; i < 16; i++) {
            due("order " + i, x.place(0, 0, i % 2, 50, 2880), i);
        }
        due("none has been bought", x.count(4), 0);
        x.deposit(0, 500);
        due("all are bought", x.count(4), 800);
        due("no order is open", x.count(2), 0);
        due("400 of one", x.shares(0, 0), 400);
        due("400 of the other", x.shares(0, 1), 400);
        due("for 400 coins", x.trader(0, 0), 100 * COIN);
    }

    private static void wrong() {
        PredictionMaker x = withMarket(60, 2);
        String before = stateOf(x);
        refused("trader -1", x, before, x.place(-1, 0, 0, 1, 1), BAD_ARGUMENT);
        refused("trader 6", x, before, x.place(6, 0, 0, 1, 1), BAD_ARGUMENT);
        refused("count 0", x, before, x.place(0, 0, 0, 0, 1), BAD_ARGUMENT);
        refused("count 51", x, before, x.place(0, 0, 0, 51, 1), BAD_ARGUMENT);
        refused("limit 0", x, before, x.place(0, 0, 0, 1, 0), BAD_ARGUMENT);
        refused("limit 2881", x, before, x.place(0, 0, 0, 1, 2881), BAD_ARGUMENT);
        refused("market -1", x, before, x.place(0, -1, 0, 1, 1), NONE);
        refused("market 1", x, before, x.place(0, 1, 0, 1, 1), NONE);
        refused("outcome -1", x, before, x.place(0, 0, -1, 1, 1), NONE);
        refused("outcome 2", x, before, x.place(0, 0, 2, 1, 1), NONE);
        refused("bad before none", x, before, x.place(0, 0, 2, 1, 0), BAD_ARGUMENT);
        for (int wild : WILD) {
            refused("trader " + wild, x, before, x.place(wild, 0, 0, 1, 1), BAD_ARGUMENT);
            refused("market " + wild, x, before, x.place(0, wild, 0, 1, 1), NONE);
            refused("outcome " + wild, x, before, x.place(0, 0, wild, 1, 1), NONE);
            refused("count " + wild, x, before, x.place(0, 0, 0, wild, 1), BAD_ARGUMENT);
            refused("limit " + wild, x, before, x.place(0, 0, 0, 1, wild), BAD_ARGUMENT);
        }
        due("fifty shares and the highest limit", x.place(0, 0, 0, 50, 2880), 0);
        due("are bought", x.holding(0, 0, 0), 50);
        due("refused orders have no number", x.place(0, 0, 0, 1, 1), 1);
    }

    private static void states() {
        PredictionMaker x = withMarket(60, 2);
        x.openMarket(60, 2, 100);
        x.openMarket(60, 2, 200);
        x.cancelMarket(2);
        x.tick(100);
        x.settle(0, 0);
        String before = stateOf(x);
        refused("settled", x, before, x.place(0, 0, 0, 1, 1), STATE);
        refused("expired", x, before, x.place(0, 1, 0, 1, 1), STATE);
        refused("void", x, before, x.place(0, 2, 0, 1, 1), STATE);
        refused("none before state", x, before, x.place(0, 1, 2, 1, 1), NONE);
    }

    private static void full() {
        PredictionMaker x = withMarket(60, 2);
        x.openMarket(60, 2, 90);
        for (int i = 0; i < 16; i++) {
            due("order " + i, x.place(i % 6, i % 2, 0, 1, 100 + i), i);
        }
        String before = stateOf(x);
        refused("a seventeenth", x, before, x.place(0, 0, 0, 1, 1), FULL);
        refused("one that could be bought", x, before, x.place(0, 0, 0, 1, 2880), FULL);
        refused("none before full", x, before, x.place(0, 0, 2, 1, 1), NONE);
        refused("bad before full", x, before, x.place(0, 0, 0, 1, 0), BAD_ARGUMENT);
        x.tick(90);
        due("state before full", x.place(0, 1, 0, 1, 1), STATE);
        due("half were cancelled", x.count(2), 8);
        due("the next number", x.place(0, 0, 0, 1, 1), 16);
    }
}
