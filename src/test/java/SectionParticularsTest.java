/** "Particulars." of the description, as far as they do not stand with their sections. */
public final class SectionParticularsTest extends Check {
    public static void main(String[] args) {
        eachMarketByItself();
        ordersOnceBehindASet();
        setWithOrdersAt400();
        savedToo();
        timeIsSaved();
        reasonsAreSaved();
        orderNumbersAreSaved();
        historyIsSaved();
        textIsNotSaved();
        noneIsNotAnError();
        end();
    }

    /** "For trader(t, 3), each open or expired market is taken by itself": conditions do not matter. */
    private static void eachMarketByItself() {
        PredictionMaker x = withMarket(60, 2);
        x.openLinked(60, 2, 100, 0, 0);
        x.openLinked(60, 2, 100, 0, 1);
        x.buy(0, 0, 0, 10);
        x.buy(0, 0, 1, 4);
        x.buy(0, 1, 0, 3);
        x.buy(0, 1, 1, 3);
        x.buy(0, 2, 1, 8);
        due("10 and 3 and 8, though 1 and 2 exclude one another", x.trader(0, 3), 21);
        due("who holds nothing", x.trader(1, 3), 0);
        x.buy(0, 0, 1, 5);
        due("9 of the other are less than 10", x.trader(0, 3), 21);
        x.buy(0, 0, 1, 1);
        due("10 are as many", x.trader(0, 3), 21);
        x.buy(0, 0, 1, 1);
        due("11 are more", x.trader(0, 3), 22);
        x.tick(100);
        due("expired ones count", x.trader(0, 3), 22);
        x.settle(0, 0);
        due("settled and void ones do not", x.trader(0, 3), 3);
        x.settle(1, 1);
        due("nothing is left", x.trader(0, 3), 0);
    }

    /** "After buySet, orders are executed once, behind all its outcomes". */
    private static void ordersOnceBehindASet() {
        PredictionMaker x = withMarket(60, 2);
        x.place(1, 0, 1, 1, 1440);
        due("both outcomes together change no price", x.buySet(0, 0, 3, 10), 10 * COIN);
        due("so the order waits", x.order(0, 3), 1);
        due("no trade is between them", x.count(4), 2);
        PredictionMaker y = withMarket(60, 2);
        y.place(1, 0, 1, 1, 1440);
        y.buy(0, 0, 0, 10);
        due("one after the other it would have been bought", y.holding(1, 0, 1), 1);
    }

    /** A set that fills an outcome leaves nothing of it for the orders. */
    private static void setWithOrdersAt400() {
        PredictionMaker x = withMarket(60, 2);
        pile(x, 0, 399, 399);
        setBalance(x, 2, 0);
        x.place(2, 0, 0, 5, 2880);
        due("it lacks money", x.order(0, 5), 2);
        x.buySet(3, 0, 3, 1);
        due("400 shares", x.shares(0, 0), 400);
        x.deposit(2, 10);
        due("there is none left", x.order(0, 5), 3);
        due("five wait", x.order(0, 3), 5);
        x.sell(3, 0, 0, 1);
        due("one is sold and bought", x.order(0, 3), 4);
    }

    private static PredictionMaker full() {
        PredictionMaker x = withMarket(60, 3);
        x.openLinked(12, 2, 20, 0, 2);
        x.openMarket(5, 4, 15);
        x.openLinked(5, 4, 60, 2, 1);
        x.openMarket(1, 2, 90);
        for (int i = 0; i < 33; i++) {
            x.buy(i % 6, i % 4, i % 2, 1 + i % 5);
        }
        x.place(0, 0, 0, 50, 1000);
        x.place(1, 1, 0, 50, 1500);
        x.place(2, 3, 1, 50, 800);
        x.place(3, 4, 1, 1, 1);
        x.cancelMarket(4);
        x.tick(16);
        x.settle(2, 0);
        return x;
    }

    /** "Saves everything": each number that can be asked, while everything is changed in between. */
    private static void savedToo() {
        PredictionMaker x = full();
        String before = stateOf(x);
        due("five markets", x.save(), 5);
        x.openLinked(60, 4, 900, 0, 1);
        x.buySet(3, 5, 15, 9);
        x.place(5, 5, 0, 50, 2880);
        x.sell(0, 0, 0, 1);
        x.cancel(0);
        x.withdraw(4, 12345);
        x.tick(84);
        x.settle(0, 0);
        isTrue("all is different", !stateOf(x).equals(before));
        due("back to five", x.restore(), 5);
        isTrue("as before", stateOf(x).equals(before));
        due("the snapshot is kept", x.restore(), 5);
        isTrue("as before again", stateOf(x).equals(before));
        x.tick(4);
        due("a later one replaces it", x.save(), 5);
        String later = stateOf(x);
        x.tick(50);
        x.restore();
        isTrue("the later one", stateOf(x).equals(later));
    }

    /** "... the time ... are saved, too": and with it what can be opened and when it expires. */
    private static void timeIsSaved() {
        PredictionMaker x = new PredictionMaker();
        x.tick(7);
        x.save();
        x.tick(50);
        x.restore();
        due("the time", x.count(3), 7);
        due("too early", x.openMarket(60, 2, 7), BAD_ARGUMENT);
        due("a market", x.openMarket(60, 2, 8), 0);
        due("a tick", x.tick(1), 8);
        due("expired", x.market(0, 0), 1);
        x.restore();
        due("not there", x.market(0, 0), NONE);
        due("the time again", x.count(3), 7);
    }

    /** "... and the reasons". */
    private static void reasonsAreSaved() {
        PredictionMaker x = full();
        x.tick(4);
        x.tick(10);
        x.save();
        int[] reasons = {NONE, 2, NONE, 4, 1, NONE};
        for (int market = 0; market < 6; market++) {
            due("the reason of " + market, x.voidReason(market, 0), reasons[market]);
        }
        x.cancelMarket(0);
        x.restore();
        for (int market = 0; market < 6; market++) {
            due("the reason afterwards of " + market, x.voidReason(market, 0), reasons[market]);
        }
    }

    /** "... the orders with their numbers": those that are open, and the next one. */
    private static void orderNumbersAreSaved() {
        PredictionMaker x = withMarket(60, 2);
        x.place(0, 0, 0, 1, 1);
        x.place(1, 0, 0, 2, 5);
        x.place(2, 0, 1, 3, 3);
        x.cancel(0);
        x.save();
        x.cancel(1);
        x.place(3, 0, 0, 4, 4);
        x.place(3, 0, 0, 4, 6);
        x.restore();
        due("two are open", x.count(2), 2);
        due("the first to be tried", x.waiting(0, 0), 1);
        due("the second", x.waiting(0, 1), 2);
        due("no third", x.waiting(0, 2), NONE);
        int[] parts = {1, 0, 0, 2, 5, 1};
        for (int what = 0; what < 6; what++) {
            due("part " + what, x.order(1, what), parts[what]);
        }
        due("order 3 is not there", x.order(3, 0), NONE);
        due("the next number", x.place(4, 0, 0, 1, 1), 3);
    }

    /** "The history ... saved, too": the kept trades and the count of all. */
    private static void historyIsSaved() {
        PredictionMaker x = withMarket(60, 2);
        for (int i = 0; i < 35; i++) {
            x.buy(i % 6, 0, 0, 1 + i % 3);
        }
        x.save();
        for (int i = 0; i < 11; i++) {
            x.buySet(5, 0, 3, 9);
        }
        due("57 trades", x.count(4), 57);
        x.restore();
        due("35 trades", x.count(4), 35);
        for (int index = 0; index < 30; index++) {
            due("trader of trade " + index, x.history(index, 0), (34 - index) % 6);
            due("number of trade " + index, x.history(index, 3), 1 + (34 - index) % 3);
        }
        due("thirty", x.history(30, 0), NONE);
        x.sell(0, 0, 0, 1);
        due("it goes on", x.history(1, 0), 34 % 6);
    }

    /** "Saves everything but the text", and "The text stays." */
    private static void textIsNotSaved() {
        PredictionMaker x = withMarket(60, 2);
        write(x, "0+2m0.0");
        x.save();
        x.append(';', 1);
        x.restore();
        due("longer than when it was saved", x.count(5), 8);
        write(x, "1+3m0.1");
        due("two trades", x.trade(), 2);
        x.restore();
        due("no text", x.count(5), 0);
        due("no trades", x.count(4), 0);
        write(x, "2+4m0.0");
        x.restore();
        due("the text of now", x.trade(), 1);
        due("four", x.holding(2, 0, 0), 4);
    }

    /** "NONE is not an error": but it changes nothing, and ends the trades of a text. */
    private static void noneIsNotAnError() {
        PredictionMaker x = withMarket(60, 2);
        String before = stateOf(x);
        refused("buy", x, before, x.buy(0, 1, 0, 1), NONE);
        refused("sell", x, before, x.sell(0, 1, 0, 1), NONE);
        refused("place", x, before, x.place(0, 1, 0, 1, 1), NONE);
        refused("cancel", x, before, x.cancel(0), NONE);
        refused("settle", x, before, x.settle(1, 0), NONE);
        refused("cancelMarket", x, before, x.cancelMarket(1), NONE);
        refused("restore", x, before, x.restore(), NONE);
        refused("a text", x, before, trade(x, "0+1m1.0;0+1m0.0"), 0);
        due("it stands where it is listed, before an error", x.market(1, 99), NONE);
        due("or behind one", x.buy(6, 1, 0, 1), BAD_ARGUMENT);
    }
}
