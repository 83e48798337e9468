/** Promise 31: restore. */
public final class Promise31RestoreTest extends Check {
    public static void main(String[] args) {
        PredictionMaker x = new PredictionMaker();
        due("no snapshot", x.restore(), NONE);
        everything();
        goesOn();
        fewerMarkets();
        endings();
        text();
        empty();
        end();
    }

    private static PredictionMaker full() {
        PredictionMaker x = withMarket(60, 4);
        x.openLinked(10, 2, 40, 0, 3);
        x.openLinked(12, 3, 60, 0, 1);
        x.openMarket(5, 2, 10);
        x.openLinked(5, 2, 90, 3, 1);
        x.buy(0, 0, 1, 20);
        x.buySet(1, 1, 3, 30);
        x.buy(1, 2, 2, 8);
        x.sell(0, 0, 1, 5);
        x.place(2, 0, 0, 45, 730);
        x.place(3, 0, 1, 4, 500);
        x.place(4, 1, 1, 4, 1500);
        x.place(4, 2, 1, 4, 2);
        x.tick(12);
        x.settle(3, 0);
        return x;
    }

    private static void everything() {
        PredictionMaker x = full();
        String before = stateOf(x);
        x.save();
        x.deposit(5, 100);
        x.openMarket(60, 2, 600);
        x.buy(5, 0, 2, 30);
        x.sell(0, 0, 1, 15);
        x.place(5, 5, 0, 6, 2880);
        x.place(5, 5, 1, 6, 2880);
        x.cancel(1);
        x.tick(100);
        x.settle(0, 2);
        x.cancelMarket(5);
        due("all else", stateOf(x).equals(before) ? 1 : 0, 0);
        due("the number of markets", x.restore(), 5);
        due("everything is as it was", stateOf(x).equals(before) ? 1 : 0, 1);
        x.tick(100);
        x.buy(1, 0, 3, 5);
        due("the snapshot is kept", x.restore(), 5);
        due("and unchanged", stateOf(x).equals(before) ? 1 : 0, 1);
    }

    /** What comes after a snapshot is restored is what would have come without it. */
    private static void goesOn() {
        PredictionMaker x = full();
        PredictionMaker y = full();
        x.save();
        x.place(0, 0, 0, 3, 1);
        x.openMarket(60, 2, 50);
        x.buy(2, 5, 0, 40);
        x.tick(30);
        x.restore();
        due("the next order", x.place(0, 0, 0, 3, 1), y.place(0, 0, 0, 3, 1));
        due("the next market", x.openMarket(30, 3, 90), y.openMarket(30, 3, 90));
        due("without shares", x.shares(5, 0), 0);
        due("the next buying", x.buy(0, 0, 0, 9), y.buy(0, 0, 0, 9));
        due("the next deposit", x.deposit(3, 9), y.deposit(3, 9));
        due("the next ticks", x.tick(90), y.tick(90));
        due("all", stateOf(x).equals(stateOf(y)) ? 1 : 0, 1);
    }

    private static void fewerMarkets() {
        PredictionMaker x = withMarket(60, 2);
        x.save();
        x.openLinked(1, 4, 90, 0, 1);
        x.buy(0, 1, 3, 50);
        x.tick(95);
        x.restore();
        due("the market is gone", x.market(1, 0), NONE);
        due("a new one", x.openMarket(60, 2, 50), 1);
        int[] fresh = {0, 60, 2, 50, -1, -1, 0, 86400, -86400, -1, 2, 0};
        for (int what = 0; what < 12; what++) {
            due("has nothing of the old one, " + what, x.market(1, what), fresh[what]);
        }
        due("no paid money", x.paid(0, 1), 0);
        due("no shares", x.shares(1, 0) + x.holding(0, 1, 0), 0);
    }

    /** How a market ended is forgotten with its end. */
    private static void endings() {
        PredictionMaker x = withMarket(60, 2);
        x.openMarket(60, 2, 100);
        x.buy(0, 0, 1, 3);
        x.tick(100);
        String before = stateOf(x);
        x.save();
        due("three coins", x.settle(0, 1), 3 * COIN);
        x.cancelMarket(1);
        String after = stateOf(x);
        x.restore();
        due("neither settled nor void", stateOf(x).equals(before) ? 1 : 0, 1);
        due("no outcome", x.market(0, 9), -1);
        x.settle(0, 1);
        x.cancelMarket(1);
        due("both once more", stateOf(x).equals(after) ? 1 : 0, 1);
        x.save();
        x.restore();
        due("ended markets are saved, too", stateOf(x).equals(after) ? 1 : 0, 1);
    }

    private static void text() {
        PredictionMaker x = withMarket(60, 2);
        write(x, "0+1m");
        x.save();
        write(x, "0.0");
        x.restore();
        due("the text stays", x.count(5), 7);
        due("and can be traded", x.trade(), 1);
        x.restore();
        due("it is not brought back", x.count(5), 0);
        due("the trade is undone", x.shares(0, 0), 0);
    }

    private static void empty() {
        PredictionMaker x = new PredictionMaker();
        x.save();
        x.openMarket(60, 2, 50);
        x.deposit(0, 5);
        due("an empty snapshot", x.restore(), 0);
        due("no money", x.count(6), 0);
        due("no markets", x.count(0), 0);
    }
}
