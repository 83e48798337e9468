/** The lines ahead of the promises: what it is, and "Money". */
public final class SectionMoneyTest extends Check {
    public static void main(String[] args) {
        fiveHundredTwelveCalls();
        aCoinIs2880Units();
        sixTradersFromZero();
        balancesCanBecomeNegative();
        withABalanceBelowZero();
        timeIsTheNumberOfTicks();
        end();
    }

    /** "An object is used for at most 512 calls after it has been made": the last one answers, too. */
    private static void fiveHundredTwelveCalls() {
        PredictionMaker x = new PredictionMaker();
        due("call 1", x.openMarket(60, 2, 100), 0);
        due("call 2", x.deposit(0, 500), 500 * COIN);
        for (int call = 3; call <= 510; call++) {
            int got = call % 2 == 1 ? x.buy(0, 0, 0, 1) : x.sell(0, 0, 0, 1);
            due("call " + call, got, 1446);
        }
        due("call 511", x.count(4), 508);
        due("call 512", x.buy(0, 0, 1, 50), 87000);
    }

    /** "All amounts of money are whole numbers of units; a coin is 2880 units." */
    private static void aCoinIs2880Units() {
        PredictionMaker x = new PredictionMaker();
        due("a coin paid in", x.deposit(0, 1), 2880);
        due("all but a unit of it", x.withdraw(0, 2879), 1);
        due("the last unit", x.withdraw(0, 1), 0);
        x.openMarket(1, 2, 1);
        x.deposit(1, 1);
        due("a share", x.buy(1, 0, 0, 1), 1800);
        x.tick(1);
        due("is worth a coin", x.settle(0, 0), 2880);
        due("which the trader gets", x.trader(1, 0), 2880 - 1800 + 2880);
    }

    /** "There are 6 traders, numbered from 0, each with a balance, at first 0". */
    private static void sixTradersFromZero() {
        PredictionMaker x = withMarket(60, 2);
        PredictionMaker fresh = new PredictionMaker();
        for (int trader = -1; trader <= 6; trader++) {
            boolean there = trader >= 0 && trader < 6;
            due("the first balance of trader " + trader, fresh.trader(trader, 0), there ? 0 : BAD_ARGUMENT);
            due("the holding of trader " + trader, x.holding(trader, 0, 0), there ? 0 : NONE);
            due("what was paid by trader " + trader, x.paid(trader, 0), there ? 0 : NONE);
            due("what trader " + trader + " can afford", x.affordable(trader, 0, 0), there ? 50 : NONE);
        }
        for (int trader = 0; trader < 6; trader++) {
            due("each its own", fresh.deposit(trader, trader + 1), (trader + 1) * COIN);
        }
        for (int trader = 0; trader < 6; trader++) {
            due("balance", fresh.trader(trader, 0), (trader + 1) * COIN);
        }
        due("all together", fresh.count(6), 21 * COIN);
    }

    /** "... each with a balance ... which can become negative": down to 1, to 0 and to -1. */
    private static void balancesCanBecomeNegative() {
        for (int balance : new int[] {1081, 1080, 1079, 1, 0}) {
            PredictionMaker x = withMarket(1, 2);
            x.buy(0, 0, 0, 1);
            x.buy(1, 0, 0, 50);
            x.sell(0, 0, 0, 1);
            due("got more than paid", x.paid(0, 0), -1080);
            setBalance(x, 0, balance);
            x.cancelMarket(0);
            due("1080 less than " + balance, x.trader(0, 0), balance - 1080);
            due("it counts for the sum", x.count(6), 5 * 500 * COIN + balance - 1080);
        }
    }

    /** What the methods say of the balance holds for one that is negative, too. */
    private static void withABalanceBelowZero() {
        PredictionMaker x = withMarket(60, 2);
        owe(x, 3, 1, 1);
        String before = stateOf(x);
        refused("withdraw", x, before, x.withdraw(3, 1), NOT_ENOUGH);
        refused("buy", x, before, x.buy(3, 0, 0, 1), NOT_ENOUGH);
        refused("buySet", x, before, x.buySet(3, 0, 3, 1), NOT_ENOUGH);
        due("affordable", x.affordable(3, 0, 0), 0);
        due("an order can be placed", x.place(3, 0, 0, 1, 2880), 0);
        due("and lacks money", x.order(0, 5), 2);
        due("a deposit", x.deposit(3, 1), 2879);
        due("after which the order is bought", x.trader(3, 0), 2879 - 1446);

        PredictionMaker y = withMarket(60, 2);
        y.buy(3, 0, 0, 10);
        owe(y, 3, 1, 1080);
        due("selling pays a part back", y.sell(3, 0, 0, 1), 1554);
        due("the balance", y.trader(3, 0), 474);
    }

    /** "The time is the number of ticks." */
    private static void timeIsTheNumberOfTicks() {
        PredictionMaker x = new PredictionMaker();
        due("at first", x.count(3), 0);
        int time = 0;
        for (int count : new int[] {1, 2, 99, 100, 100, 1, 100, 7}) {
            time += count;
            due("tick(" + count + ")", x.tick(count), time);
            due("the time", x.count(3), time);
        }
        x.openMarket(60, 2, 999);
        x.deposit(0, 1);
        x.trade();
        due("no other call takes time", x.count(3), time);
    }
}
