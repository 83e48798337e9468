/** "Settling." of the description, and what the particulars say of it. */
public final class SectionSettlingTest extends Check {
    public static void main(String[] args) {
        aCoinForEachShare();
        paidBack();
        who();
        sharesAreKept();
        paidStaysAsItIs();
        bySettling();
        byVoiding();
        openOrExpired();
        ordersFirst();
        whatIsOverStays();
        settledOnlyBehindItsCondition();
        end();
    }

    /** "... each trader gets a coin for each share of this outcome": none, one and 400 shares. */
    private static void aCoinForEachShare() {
        for (int shares : new int[] {0, 1, 2, 399, 400}) {
            PredictionMaker x = withMarket(60, 3);
            pile(x, 0, 10, shares, 20);
            int[] balances = new int[6];
            for (int trader = 0; trader < 6; trader++) {
                balances[trader] = x.trader(trader, 0);
            }
            int account = x.market(0, 6);
            x.tick(100);
            due("paid for " + shares, x.settle(0, 1), shares * COIN);
            for (int trader = 0; trader < 6; trader++) {
                int due = balances[trader] + (trader == 1 ? shares * COIN : 0);
                due("the balance of trader " + trader, x.trader(trader, 0), due);
            }
            due("the account", x.market(0, 6), account - shares * COIN);
        }
        everyOutcome();
    }

    private static void everyOutcome() {
        for (int outcome = 0; outcome < 4; outcome++) {
            PredictionMaker x = withMarket(60, 4);
            pile(x, 0, 1, 2, 3, 4);
            x.tick(100);
            due("outcome " + outcome, x.settle(0, outcome), (outcome + 1) * COIN);
            due("is told", x.market(0, 9), outcome);
        }
    }

    /** "... each trader gets back ... what was paid to it by this trader minus what was got from it". */
    private static void paidBack() {
        PredictionMaker x = withMarket(1, 2);
        x.buy(0, 0, 0, 1);
        x.buy(1, 0, 0, 50);
        due("got 1080 more than paid", x.sell(0, 0, 0, 1), 2880);
        x.buy(2, 0, 1, 7);
        x.buy(3, 0, 0, 5);
        x.sell(3, 0, 0, 5);
        int[] paid = {-1080, 50 * COIN - 360, 0, 0, 0, 0};
        for (int trader = 0; trader < 6; trader++) {
            due("paid by " + trader, x.paid(trader, 0), paid[trader]);
            due("the balance of " + trader, x.trader(trader, 0), 500 * COIN - paid[trader]);
        }
        due("the account", x.market(0, 6), 50 * COIN - 360 - 1080);
        x.cancelMarket(0);
        for (int trader = 0; trader < 6; trader++) {
            due("the balance afterwards of " + trader, x.trader(trader, 0), 500 * COIN);
        }
        due("the account afterwards", x.market(0, 6), 0);
    }

    /** By this market alone, and to those who paid it alone. */
    private static void who() {
        PredictionMaker x = withMarket(60, 2);
        x.openMarket(60, 2, 100);
        int kept = x.buy(0, 1, 0, 20);
        x.buy(0, 0, 0, 20);
        x.cancelMarket(0);
        due("what the other market got is not back", x.trader(0, 0), 500 * COIN - kept);
        due("its account", x.market(1, 6), kept);
        due("all accounts", x.count(7), kept);
    }

    /** "The shares are kept for information." */
    private static void sharesAreKept() {
        PredictionMaker x = withMarket(60, 3);
        x.openLinked(60, 2, 200, 0, 0);
        x.buy(4, 1, 1, 9);
        pile(x, 0, 11, 12, 13);
        x.tick(100);
        x.settle(0, 2);
        for (int outcome = 0; outcome < 3; outcome++) {
            due("of the settled one, " + outcome, x.shares(0, outcome), 11 + outcome);
            due("held, " + outcome, x.holding(outcome, 0, outcome), 11 + outcome);
        }
        due("of the void one", x.shares(1, 1), 9);
        due("held of it", x.holding(4, 1, 1), 9);
        due("but not sold", x.sell(4, 1, 1, 1), STATE);
        due("nor sold, settled", x.sell(2, 0, 2, 1), STATE);
        due("nor counted", x.trader(4, 1) + x.trader(4, 3) + x.trader(2, 1) + x.trader(2, 3), 0);
    }

    /** "What a trader paid to a market stays as it is when the market is settled or becomes void". */
    private static void paidStaysAsItIs() {
        PredictionMaker x = withMarket(60, 2);
        x.openMarket(60, 2, 100);
        int first = x.buy(0, 0, 0, 7);
        int second = x.buy(0, 1, 0, 8);
        x.tick(100);
        due("expired", x.paid(0, 0), first);
        x.settle(0, 0);
        due("settled", x.paid(0, 0), first);
        x.tick(10);
        due("void", x.market(1, 0), 3);
        due("and still", x.paid(0, 1), second);
        due("its account went", x.market(1, 6), 0);
        due("so did the other's", x.market(0, 6), first - 7 * COIN);
    }

    /** "... with ... another outcome, becomes void, too", and with the same outcome it does not. */
    private static void bySettling() {
        for (int settled = 0; settled < 3; settled++) {
            PredictionMaker x = withMarket(60, 3);
            for (int outcome = 0; outcome < 3; outcome++) {
                x.openLinked(60, 2, 200, 0, outcome);
            }
            x.openMarket(60, 3, 200);
            x.openLinked(60, 2, 200, 4, settled == 0 ? 1 : 0);
            x.tick(100);
            due("settled", x.settle(0, settled), 0);
            for (int outcome = 0; outcome < 3; outcome++) {
                boolean same = outcome == settled;
                due("with " + outcome, x.market(1 + outcome, 0), same ? 0 : 3);
                due("why", x.voidReason(1 + outcome, 0), same ? NONE : 4);
            }
            due("another market", x.market(4, 0), 0);
            due("what depends on another", x.market(5, 0), 0);
        }
    }

    /** "... with a market that became void": with each outcome of it, and by each way to it. */
    private static void byVoiding() {
        for (int way = 0; way < 3; way++) {
            PredictionMaker x = withMarket(60, 2);
            x.openLinked(60, 2, 50, 0, 1);
            x.openLinked(60, 2, 200, 1, 0);
            x.openLinked(60, 2, 200, 1, 1);
            x.openLinked(60, 2, 200, 2, 1);
            x.openLinked(60, 2, 200, 0, 1);
            if (way == 0) {
                due("cancelled", x.cancelMarket(1), 4);
            } else if (way == 1) {
                due("not settled in time", x.tick(60), 60);
            } else {
                x.tick(52);
                due("two are cancelled one by one", x.cancelMarket(4), 1);
                due("and the others", x.cancelMarket(1), 3);
            }
            int[] states = {0, 3, 3, 3, 3, 0};
            int[] reasons = {NONE, way == 1 ? 2 : 1, 3, 3, way == 2 ? 1 : 3, NONE};
            for (int market = 0; market < 6; market++) {
                due("the state of " + market + ", way " + way, x.market(market, 0), states[market]);
                due("why " + market + ", way " + way, x.voidReason(market, 0), reasons[market]);
            }
        }
    }

    /** "... each open or expired market whose condition is on it". */
    private static void openOrExpired() {
        for (int expiry = 99; expiry <= 101; expiry++) {
            PredictionMaker x = withMarket(60, 2);
            x.openLinked(60, 2, expiry, 0, 0);
            x.openLinked(60, 2, expiry, 0, 1);
            x.tick(100);
            due("open or expired", x.market(1, 0), expiry <= 100 ? 1 : 0);
            x.save();
            x.settle(0, 1);
            due("void by another outcome", x.market(1, 0), 3);
            due("the same outcome", x.market(2, 0), expiry <= 100 ? 1 : 0);
            x.restore();
            due("void with it", x.cancelMarket(0), 3);
            due("both", x.market(1, 0) + x.market(2, 0), 6);
        }
    }

    /** "... and its open orders are cancelled first": those of void markets, and no others. */
    private static void ordersFirst() {
        PredictionMaker x = withMarket(60, 2);
        x.openLinked(60, 2, 200, 0, 0);
        x.openLinked(60, 2, 200, 0, 1);
        x.openLinked(60, 2, 200, 1, 1);
        x.openMarket(60, 2, 200);
        for (int market = 1; market < 5; market++) {
            x.place(0, market, 0, 3, 1);
            x.place(1, market, 1, 3, 2);
        }
        x.tick(100);
        due("eight", x.count(2), 8);
        x.settle(0, 1);
        due("four are left", x.count(2), 4);
        due("none of market 1", x.waiting(1, 0), NONE);
        due("none of market 3", x.waiting(3, 0), NONE);
        due("those of market 2", x.waiting(2, 0) * 10 + x.waiting(2, 1), 32);
        due("those of market 4", x.waiting(4, 0) * 10 + x.waiting(4, 1), 76);
        due("money that came back executed nothing", x.count(4), 0);
    }

    /** What is settled or void already is not touched by the market of its condition. */
    private static void whatIsOverStays() {
        PredictionMaker x = withMarket(60, 2);
        x.openLinked(60, 2, 150, 0, 0);
        x.openLinked(60, 2, 150, 0, 0);
        x.buy(0, 1, 0, 5);
        x.cancelMarket(1);
        int balance = x.trader(0, 0);
        due("only the one that is not void", x.cancelMarket(0), 2);
        due("nothing is paid back again", x.trader(0, 0), balance);
        due("it keeps its reason", x.voidReason(1, 0), 1);
        due("the other has its own", x.voidReason(2, 0), 3);
    }

    /** A market whose condition held can be settled and void as any other. */
    private static void settledOnlyBehindItsCondition() {
        PredictionMaker x = withMarket(60, 2);
        x.openLinked(60, 2, 100, 0, 1);
        x.openLinked(60, 2, 100, 1, 1);
        x.tick(100);
        refused("expired, its condition's market, too", x, stateOf(x), x.settle(1, 0), STATE);
        refused("by two", x, stateOf(x), x.settle(2, 0), STATE);
        due("the first", x.settle(0, 1), 0);
        refused("by two, still", x, stateOf(x), x.settle(2, 0), STATE);
        due("the second", x.settle(1, 1), 0);
        due("the third", x.settle(2, 0), 0);
        due("all are settled", x.market(0, 0) + x.market(1, 0) + x.market(2, 0), 6);
        PredictionMaker y = withMarket(60, 2);
        y.openLinked(60, 2, 100, 0, 1);
        y.tick(100);
        y.settle(0, 1);
        due("it can be cancelled", y.cancelMarket(1), 1);
        due("for its own reason", y.voidReason(1, 0), 1);
    }
}
