/**
 * "Orders." of the description, and what the particulars say of them. With liquidity 60 and two
 * even outcomes, the n-th share of one more costs 1434 + 12 * n.
 */
public final class SectionOrdersTest extends Check {
    public static void main(String[] args) {
        numberedInTheOrderOfPlacing();
        atMostSixteenAreOpen();
        sixteenInSeveralMarkets();
        atMostItsLimit();
        atMostTheBalance();
        atCostZero();
        lessThan400Shares();
        oneShareAtATime();
        highestLimitFirst();
        ofSeveralTheLowestNumber();
        thatCanBeExecutedNow();
        notOpenAnyMore();
        afterEachBuyingAndSelling();
        afterEachPlacing();
        afterEachDeposit();
        notAfterAnythingElse();
        notAfterARefusal();
        waitAllTheSame();
        end();
    }

    /** "Orders are numbered from 0 in the order in which they were placed", whatever became of them. */
    private static void numberedInTheOrderOfPlacing() {
        PredictionMaker x = withMarket(60, 2);
        x.openMarket(60, 2, 100);
        due("the first", x.place(0, 0, 0, 1, 1), 0);
        due("in another market", x.place(1, 1, 0, 1, 1), 1);
        due("bought at once", x.place(2, 0, 0, 1, 2880), 2);
        due("refused", x.place(0, 0, 2, 1, 1), NONE);
        due("refused, too", x.place(0, 0, 0, 0, 1), BAD_ARGUMENT);
        due("behind a bought one", x.place(0, 0, 0, 1, 1), 3);
        x.cancel(3);
        due("behind a cancelled one", x.place(0, 0, 0, 1, 1), 4);
        due("the first is still so", x.order(0, 0), 0);
        due("with another limit", x.place(0, 0, 0, 1, 2), 5);
        due("number -1", x.order(-1, 0), NONE);
        due("number 6", x.order(6, 0), NONE);
    }

    /** "... at most 16 of them are open": the fifteenth, the sixteenth, the seventeenth. */
    private static void atMostSixteenAreOpen() {
        PredictionMaker x = withMarket(60, 2);
        for (int i = 0; i < 14; i++) {
            x.place(i % 6, 0, i % 2, 2, 1);
        }
        due("the fifteenth", x.place(0, 0, 0, 2, 1), 14);
        due("the sixteenth", x.place(0, 0, 0, 2, 1), 15);
        due("sixteen", x.count(2), 16);
        refused("the seventeenth", x, stateOf(x), x.place(0, 0, 0, 2, 1), FULL);
        refused("one that could be executed at once", x, stateOf(x), x.place(0, 0, 0, 1, 2880), FULL);
        x.cancel(7);
        due("after a cancel", x.place(0, 0, 0, 1, 2880), 16);
        due("it is bought", x.holding(0, 0, 0), 1);
        due("so there is room again", x.place(0, 0, 0, 2, 1), 17);
        refused("and no more", x, stateOf(x), x.place(0, 0, 0, 2, 1), FULL);
        x.tick(100);
        due("all are gone", x.count(2), 0);
        x.openMarket(60, 2, 200);
        due("after the expiry", x.place(0, 1, 0, 1, 1), 18);
    }

    /** The sixteen are those of all markets and traders together; a bought one makes room. */
    private static void sixteenInSeveralMarkets() {
        PredictionMaker x = withMarket(60, 2);
        x.openMarket(60, 2, 50);
        x.openMarket(60, 2, 60);
        for (int i = 0; i < 16; i++) {
            due("order " + i, x.place(i % 6, i % 3, 0, 1, i == 15 ? 1440 : 1), i);
        }
        refused("in the first", x, stateOf(x), x.place(0, 0, 0, 1, 1), FULL);
        refused("in the last", x, stateOf(x), x.place(0, 2, 0, 1, 1), FULL);
        x.buy(4, 0, 1, 1);
        due("order 15 was bought", x.order(15, 0), NONE);
        due("now", x.place(0, 2, 0, 1, 1), 16);
        refused("no more", x, stateOf(x), x.place(0, 1, 0, 1, 1), FULL);
        x.cancelMarket(1);
        due("five are gone", x.count(2), 11);
        due("room again", x.place(0, 0, 0, 1, 1), 17);
    }

    /** "... costs at most its limit": a unit below the cost, the cost, a unit above. */
    private static void atMostItsLimit() {
        for (int off = -1; off <= 1; off++) {
            PredictionMaker x = withMarket(60, 2);
            x.place(0, 0, 0, 1, 1446 + off);
            due("bought with " + off, x.holding(0, 0, 0), off < 0 ? 0 : 1);
            due("for the cost, not the limit, with " + off, x.paid(0, 0), off < 0 ? 0 : 1446);
            due("why not, with " + off, x.order(0, 5), off < 0 ? 1 : NONE);
        }
        for (int off = -1; off <= 1; off++) {
            PredictionMaker x = withMarket(1, 2);
            pile(x, 0, 10, 0);
            x.place(5, 0, 0, 2, 2880 + Math.min(off, 0));
            due("with the highest limit " + off, x.holding(5, 0, 0), off < 0 ? 0 : 2);
        }
        PredictionMaker y = withMarket(60, 2);
        pile(y, 0, 119, 0);
        due("the lowest cost", y.cost(0, 1, 1), 18);
        y.place(5, 0, 1, 1, 17);
        due("17 is too little", y.holding(5, 0, 1), 0);
        y.buy(0, 0, 0, 1);
        due("then it costs 6", y.holding(5, 0, 1), 1);
    }

    /** "... and at most the balance of its trader": a unit less, the cost, a unit more. */
    private static void atMostTheBalance() {
        for (int off = -1; off <= 1; off++) {
            PredictionMaker x = withMarket(60, 2);
            setBalance(x, 3, 1446 + off);
            x.place(3, 0, 0, 1, 2880);
            due("bought with " + off, x.holding(3, 0, 0), off < 0 ? 0 : 1);
            due("what is left of it", x.trader(3, 0), off < 0 ? 1445 : off);
            due("why not, with " + off, x.order(0, 5), off < 0 ? 2 : NONE);
        }
        PredictionMaker x = withMarket(60, 2);
        setBalance(x, 3, 1446 + 1458 + 1469);
        x.place(3, 0, 0, 5, 2880);
        due("two of five", x.order(0, 3), 3);
        due("the third lacks a unit", x.trader(3, 0), 1469);
        due("by the balance", x.order(0, 5), 2);
    }

    /** "... an order with the cost 0 needs a balance that is not negative": 1, 0 and -1. */
    private static void atCostZero() {
        for (int balance = -1; balance <= 1; balance++) {
            PredictionMaker x = withMarket(1, 2);
            pile(x, 0, 20, 0);
            if (balance < 0) {
                owe(x, 4, 5, 1);
            } else {
                setBalance(x, 4, balance);
            }
            due("the cost", x.cost(0, 1, 1), 0);
            due("placed", x.place(4, 0, 1, 3, 1), 0);
            due("bought with " + balance, x.holding(4, 0, 1), balance < 0 ? 0 : 3);
            due("why not, with " + balance, x.order(0, 5), balance < 0 ? 2 : NONE);
            due("the balance stays", x.trader(4, 0), balance);
            due("trades", x.count(4), balance < 0 ? 3 + 1 : 1 + 3);
        }
    }

    /** "... and the outcome has less than 400 shares": 398, 399, 400. */
    private static void lessThan400Shares() {
        for (int shares = 398; shares <= 400; shares++) {
            PredictionMaker x = withMarket(60, 2);
            pile(x, 0, shares, 400);
            x.place(5, 0, 0, 1, 2880);
            due("bought at " + shares, x.holding(5, 0, 0), shares < 400 ? 1 : 0);
            due("why not, at " + shares, x.order(0, 5), shares < 400 ? NONE : 3);
            due("shares", x.shares(0, 0), Math.min(400, shares + 1));
        }
        PredictionMaker x = withMarket(60, 2);
        pile(x, 0, 400, 390);
        due("a full outcome", x.place(5, 0, 0, 1, 2880), 0);
        due("does not hold up the other", x.place(4, 0, 1, 50, 2880), 1);
        due("which is bought until it is full", x.holding(4, 0, 1), 10);
        due("40 wait", x.order(1, 3), 40);
        due("as there are 400", x.order(1, 5), 3);
        x.sell(1, 0, 1, 3);
        due("sold shares are bought at once", x.order(1, 3), 37);
        due("up to 400", x.shares(0, 1), 400);
    }

    /** "... one share is bought", then it is looked again which order is next. */
    private static void oneShareAtATime() {
        PredictionMaker x = withMarket(60, 2);
        x.place(0, 0, 0, 50, 1440);
        due("at 1446 nothing is bought", x.count(4), 0);
        x.place(1, 0, 1, 3, 1446);
        due("each share of one makes the other cheaper", x.count(4), 6);
        int[] orders = {0, 1, 0, 1, 0, 1};
        for (int index = 0; index < 6; index++) {
            due("trade " + index, x.history(index, 5), orders[index]);
            due("a share", x.history(index, 3), 1);
        }
        due("the greater order", x.order(0, 3), 47);
        higherInBetween();
    }

    /** A share for the lower limit lets the higher one be executed: then it goes first again. */
    private static void higherInBetween() {
        PredictionMaker x = withMarket(60, 2);
        x.buy(5, 0, 1, 12);
        x.place(0, 0, 1, 2, 1580);
        due("1590 is above the higher limit", x.order(0, 5), 1);
        x.place(1, 0, 0, 5, 1400);
        int[] orders = {1, 1, 1, 0, 1, 0, 1};
        int[] costs = {1326, 1314, 1302, 1578, 1302, 1578, 1302};
        for (int index = 0; index < 7; index++) {
            due("the order of trade " + index, x.history(index, 5), orders[index]);
            due("the cost of trade " + index, x.history(index, 4), costs[index]);
        }
        due("both are bought", x.count(2), 0);
    }

    /** "... the one with the highest limit": by one unit, though placed later. */
    private static void highestLimitFirst() {
        PredictionMaker x = withMarket(60, 2);
        x.buy(5, 0, 0, 50);
        x.place(0, 0, 0, 1, 1998);
        x.place(1, 0, 0, 1, 2000);
        x.place(2, 0, 0, 1, 1999);
        due("2046 is above all", x.count(4), 1);
        x.sell(5, 0, 0, 4);
        due("1998 is a share for the highest", x.history(0, 5), 1);
        due("the next costs 2010", x.count(4), 3);
        due("it holds it", x.holding(1, 0, 0), 1);
        x.sell(5, 0, 0, 1);
        due("then the one by a unit higher", x.history(0, 5), 2);
        x.sell(5, 0, 0, 1);
        due("then the last", x.history(0, 5), 0);
        due("all are bought", x.count(2), 0);
    }

    /** "... of several the one with the lowest number". */
    private static void ofSeveralTheLowestNumber() {
        PredictionMaker x = withMarket(60, 2);
        x.buy(5, 0, 0, 50);
        for (int i = 0; i < 4; i++) {
            x.place(3 - i, 0, 0, 2, 1500);
        }
        due("their order", x.waiting(0, 0) * 1000 + x.waiting(0, 1) * 100 + x.waiting(0, 2) * 10
                + x.waiting(0, 3), 123);
        x.sell(5, 0, 0, 45);
        due("at 1506 nothing", x.count(4), 2);
        int[] orders = {0, 0, 1, 1, 2};
        for (int i = 0; i < 5; i++) {
            x.sell(5, 0, 0, 1);
            due("share " + i, x.history(0, 5), orders[i]);
        }
        due("trader 3 came first", x.holding(3, 0, 0), 2);
        due("trader 0 came last", x.holding(0, 0, 0), 0);
    }

    /** "... that can be executed now": those above their limit, without money or full are passed. */
    private static void thatCanBeExecutedNow() {
        PredictionMaker x = withMarket(60, 2);
        pile(x, 0, 400, 370);
        setBalance(x, 2, 100);
        x.place(3, 0, 0, 1, 2880);
        x.place(2, 0, 1, 1, 2870);
        x.place(4, 0, 1, 3, 1900);
        due("full", x.order(0, 5), 3);
        due("without money", x.order(1, 5), 2);
        due("the third is bought", x.holding(4, 0, 1), 3);
        due("it is closed", x.order(2, 0), NONE);
        due("the two wait before it", x.waiting(0, 0) * 10 + x.waiting(0, 1), 1);
        PredictionMaker y = withMarket(60, 2);
        y.place(0, 0, 0, 1, 1445);
        y.place(1, 0, 1, 1, 1446);
        due("the second could be bought at once", y.holding(1, 0, 1), 1);
        due("which makes the first cheap enough", y.holding(0, 0, 0), 1);
    }

    /** "An order all of whose shares are bought is not open any more." With one left it is. */
    private static void notOpenAnyMore() {
        PredictionMaker x = withMarket(60, 2);
        setBalance(x, 0, 1446 + 1458);
        due("three shares", x.place(0, 0, 0, 3, 2880), 0);
        due("one is left", x.order(0, 3), 1);
        due("it is open", x.count(2), 1);
        due("it waits", x.waiting(0, 0), 0);
        x.deposit(0, 1);
        due("none is left", x.order(0, 3), NONE);
        due("it is not open", x.count(2), 0);
        due("it does not wait", x.waiting(0, 0), NONE);
        due("it cannot be cancelled", x.cancel(0), NONE);
        due("all three are held", x.holding(0, 0, 0), 3);
        due("its trades name it", x.history(0, 5) + x.history(1, 5) + x.history(2, 5), 0);
    }

    /** An order for outcome 1 at most 1440, where a share costs 1446, and others like it elsewhere. */
    private static PredictionMaker waitingOrders() {
        PredictionMaker x = withMarket(60, 2);
        x.openMarket(60, 2, 100);
        x.buy(4, 0, 0, 3);
        x.buy(4, 0, 1, 3);
        x.place(0, 0, 1, 2, 1440);
        x.place(0, 1, 1, 2, 1440);
        due("both wait", x.count(2), 2);
        return x;
    }

    /** "The orders of a market are executed after each buying and selling in it". */
    private static void afterEachBuyingAndSelling() {
        PredictionMaker x = waitingOrders();
        x.buy(5, 0, 0, 1);
        due("buy", x.order(0, 3), 1);
        x = waitingOrders();
        x.buySet(5, 0, 1, 1);
        due("buySet", x.order(0, 3), 1);
        x = waitingOrders();
        x.sell(4, 0, 1, 1);
        due("sell", x.order(0, 3), 1);
        x = waitingOrders();
        due("a text", trade(x, "5+1m0.0;4-1m0.1"), 2);
        due("trade", x.order(0, 3), NONE);
        due("after its first trade", x.history(2, 5), 0);
        due("and after its second", x.history(0, 5), 0);
        due("another market's orders wait", x.order(1, 3), 2);
        x.buy(5, 1, 0, 1);
        due("until there is a buying in it", x.order(1, 3), 1);
    }

    /** "... and each placing of an order for it", that of others, too. */
    private static void afterEachPlacing() {
        PredictionMaker x = waitingOrders();
        x.buy(5, 1, 0, 4);
        setBalance(x, 0, 0);
        x.sell(5, 1, 0, 4);
        due("an order that costs too much", x.place(5, 0, 0, 1, 1), 2);
        due("has no effect on the limit", x.order(0, 3), 2);
        due("one that is bought", x.place(5, 0, 0, 1, 2880), 3);
        due("makes it cheap, but there is no money", x.order(0, 5), 2);

        PredictionMaker y = new PredictionMaker();
        y.openMarket(60, 2, 100);
        y.openMarket(60, 2, 100);
        y.deposit(0, 10);
        y.buy(0, 1, 0, 10);
        setBalance(y, 0, 0);
        y.place(0, 0, 0, 1, 2880);
        y.sell(0, 1, 0, 2);
        due("there is money, but nothing happened", y.order(0, 5), 0);
        due("in the other market", y.place(3, 1, 0, 1, 1), 1);
        due("placing does not matter", y.order(0, 5), 0);
        due("an order without effect of its own", y.place(3, 0, 1, 1, 1), 2);
        due("lets the first be bought", y.holding(0, 0, 0), 1);
        due("and waits", y.order(2, 3), 1);
    }

    /** "... and, for all markets in ascending order, after each deposit." */
    private static void afterEachDeposit() {
        PredictionMaker x = new PredictionMaker();
        for (int market = 0; market < 6; market++) {
            x.openMarket(60, 2, 100);
        }
        for (int market = 5; market >= 0; market--) {
            x.place(2, market, 0, 1, 2880);
        }
        due("none is bought", x.count(4), 0);
        due("the balance before", x.deposit(2, 5), 5 * COIN);
        due("all are", x.count(4), 6);
        for (int index = 0; index < 6; index++) {
            due("the market of trade " + index, x.history(index, 1), 5 - index);
            due("its order", x.history(index, 5), index);
        }
        due("the balance afterwards", x.trader(2, 0), 5 * COIN - 6 * 1446);

        PredictionMaker y = new PredictionMaker();
        y.openMarket(60, 2, 100);
        y.openMarket(60, 2, 100);
        y.place(2, 1, 0, 1, 2880);
        y.place(2, 0, 0, 1, 1500);
        y.deposit(2, 1);
        due("with money for one, the first market's", y.holding(2, 0, 0), 1);
        due("not the highest limit of all", y.order(0, 5), 2);

        PredictionMaker z = withMarket(60, 2);
        z.openMarket(60, 2, 100);
        z.buy(0, 0, 0, 5);
        setBalance(z, 0, 0);
        z.place(0, 1, 0, 1, 2880);
        z.sell(0, 0, 0, 1);
        due("it could be executed", z.order(0, 5), 0);
        z.deposit(4, 1);
        due("another trader's deposit executes it", z.holding(0, 1, 0), 1);
    }

    /** Market 1 has an order that could be executed now, by money that came from market 0. */
    private static PredictionMaker executable() {
        PredictionMaker x = withMarket(60, 2);
        x.openMarket(60, 2, 90);
        x.openMarket(60, 2, 20);
        x.openMarket(60, 2, 20);
        x.buy(0, 0, 0, 5);
        x.buy(0, 3, 0, 5);
        x.tick(20);
        setBalance(x, 0, 0);
        due("order 0", x.place(0, 1, 0, 1, 2880), 0);
        due("order 1", x.place(5, 1, 1, 1, 1), 1);
        x.sell(0, 0, 0, 1);
        due("it could be executed", x.order(0, 5), 0);
        return x;
    }

    private static void waitsStill(String call, PredictionMaker x) {
        due("after " + call + " it waits", x.order(0, 3), 1);
        due("after " + call + " it could be executed", x.order(0, 5), 0);
        due("after " + call + " nothing is bought", x.shares(1, 0), 0);
    }

    /** The list of what executes orders is whole: no other call does. */
    private static void notAfterAnythingElse() {
        PredictionMaker x = executable();
        x.withdraw(0, 1);
        waitsStill("withdraw", x);
        x.buy(5, 0, 1, 1);
        waitsStill("buying in another market", x);
        x.sell(5, 0, 1, 1);
        waitsStill("selling in another market", x);
        x.buySet(5, 0, 3, 1);
        waitsStill("a set in another market", x);
        x.place(5, 0, 1, 1, 2880);
        waitsStill("placing in another market", x);
        x.tick(1);
        waitsStill("tick", x);
        x.settle(3, 0);
        waitsStill("settle", x);
        x.cancelMarket(2);
        waitsStill("cancelMarket", x);
        x.cancel(1);
        waitsStill("cancel", x);
        x.openMarket(60, 2, 99);
        x.openLinked(60, 2, 99, 1, 0);
        waitsStill("opening", x);
        x.cost(1, 0, 1);
        x.affordable(0, 1, 0);
        x.sharesFor(1, 0, 2000);
        waitsStill("asking", x);
        trade(x, "5+1m0.0");
        waitsStill("a text", x);
        x.save();
        waitsStill("save", x);
        x.restore();
        waitsStill("restore", x);
        x.buy(5, 1, 1, 1);
        due("but after a buying in it", x.holding(0, 1, 0), 1);
    }

    /** A refused buying, selling, placing or deposit executes nothing. */
    private static void notAfterARefusal() {
        PredictionMaker x = executable();
        x.buy(5, 1, 0, 51);
        waitsStill("a bad buying", x);
        x.buy(0, 1, 0, 50);
        waitsStill("a buying without money", x);
        x.buySet(5, 1, 4, 1);
        waitsStill("a bad set", x);
        x.sell(5, 1, 0, 1);
        waitsStill("selling what is not held", x);
        x.place(5, 1, 0, 1, 0);
        waitsStill("a bad order", x);
        x.deposit(5, 501);
        waitsStill("a bad deposit", x);
        x.deposit(5, 1);
        due("a good deposit executes it", x.holding(0, 1, 0), 1);
        PredictionMaker y = fullPurse();
        y.sell(0, 0, 0, 1);
        due("it could be executed", y.order(0, 5), 0);
        due("a deposit above the limit", y.deposit(5, 1), FULL);
        due("executes nothing", y.order(0, 3), 1);
        due("refused at the first trade", trade(y, "5-1m1.0"), 0);
        due("executes nothing, either", y.order(0, 3), 1);
        y.deposit(4, 1);
        due("one that is taken does", y.holding(0, 1, 0), 1);
        notAfterASeventeenth();
    }

    private static void notAfterASeventeenth() {
        PredictionMaker x = executable();
        for (int i = 2; i < 16; i++) {
            due("order " + i, x.place(5, 0, 1, 1, 1), i);
        }
        due("one too many", x.place(5, 1, 0, 1, 2880), FULL);
        waitsStill("a seventeenth order", x);
        x.cancel(15);
        due("the sixteenth", x.place(5, 1, 1, 1, 1), 16);
        due("executes it", x.holding(0, 1, 0), 1);
    }

    /** Trader 5 cannot deposit any more, and trader 0 has an order that lacks money. */
    private static PredictionMaker fullPurse() {
        PredictionMaker x = withMarket(60, 2);
        x.openMarket(60, 2, 100);
        x.buy(0, 0, 0, 5);
        setBalance(x, 0, 0);
        setBalance(x, 5, 5000000);
        x.place(0, 1, 0, 1, 2880);
        return x;
    }

    /** "Orders that cannot be executed now wait all the same". */
    private static void waitAllTheSame() {
        PredictionMaker x = withMarket(60, 2);
        pile(x, 0, 400, 0);
        setBalance(x, 2, 0);
        due("above its limit", x.place(1, 0, 0, 1, 1), 0);
        due("full", x.place(3, 0, 0, 1, 2880), 1);
        due("without money", x.place(2, 0, 0, 1, 2880), 2);
        due("all are open", x.count(2), 3);
        due("the first to be tried", x.waiting(0, 0), 1);
        due("the second", x.waiting(0, 1), 2);
        due("the third", x.waiting(0, 2), 0);
        due("why", x.order(0, 5) * 100 + x.order(1, 5) * 10 + x.order(2, 5), 132);
    }
}
