/** "Markets." and "Bound." of the description. */
public final class SectionMarketsTest extends Check {
    private static final int[] DIVISORS = {1, 2, 3, 4, 5, 6, 10, 12, 15, 20, 30, 60};

    public static void main(String[] args) {
        atMostSixMarkets();
        numberedInTheOrderOfOpening();
        liquidityDividesSixty();
        twoToFourOutcomes();
        conditionHasALowerNumber();
        sharesAreWhatAllHold();
        atMost400Shares();
        nobodyHoldsLessThanNone();
        states();
        lossBound();
        account();
        neverLosesMore();
        end();
    }

    /** "There are at most 6 markets": with the fifth, the sixth and the seventh, in any states. */
    private static void atMostSixMarkets() {
        PredictionMaker x = new PredictionMaker();
        for (int i = 0; i < 4; i++) {
            x.openMarket(60, 2, 5);
        }
        due("the fifth", x.openMarket(60, 2, 5), 4);
        due("the sixth", x.openLinked(60, 2, 5, 0, 0), 5);
        String before = stateOf(x);
        refused("the seventh", x, before, x.openMarket(60, 2, 5), FULL);
        refused("a linked seventh", x, before, x.openLinked(60, 2, 5, 0, 0), FULL);
        x.cancelMarket(1);
        refused("with a void one", x, stateOf(x), x.openMarket(60, 2, 5), FULL);
        x.tick(5);
        refused("with expired ones", x, stateOf(x), x.openMarket(60, 2, 9), FULL);
        x.settle(2, 0);
        refused("with a settled one", x, stateOf(x), x.openMarket(60, 2, 9), FULL);
        x.tick(10);
        due("all are settled or void", x.count(1), 0);
        refused("with none open or expired", x, stateOf(x), x.openMarket(60, 2, 99), FULL);
        due("six", x.count(0), 6);
    }

    /** "... numbered from 0 in the order in which they came into being." */
    private static void numberedInTheOrderOfOpening() {
        PredictionMaker x = new PredictionMaker();
        due("the first", x.openMarket(1, 2, 90), 0);
        due("a linked one", x.openLinked(2, 2, 80, 0, 1), 1);
        due("refused", x.openMarket(7, 2, 70), BAD_ARGUMENT);
        due("refused takes no number", x.openMarket(3, 2, 70), 2);
        x.cancelMarket(2);
        due("a void one keeps its number", x.openLinked(4, 2, 60, 1, 1), 3);
        int[] liquidities = {1, 2, 3, 4};
        for (int market = 0; market < 4; market++) {
            due("the liquidity of " + market, x.market(market, 1), liquidities[market]);
        }
        due("no fifth", x.market(4, 1), NONE);
    }

    /** "A market has a liquidity b, which divides 60": the least, the greatest, and those between. */
    private static void liquidityDividesSixty() {
        for (int b = 0; b <= 61; b++) {
            PredictionMaker x = new PredictionMaker();
            boolean divides = false;
            for (int divisor : DIVISORS) {
                divides |= b == divisor;
            }
            due("liquidity " + b, x.openMarket(b, 2, 5), divides ? 0 : BAD_ARGUMENT);
            due("it has it", x.market(0, 1), divides ? b : NONE);
        }
    }

    /** "... 2 to 4 outcomes, numbered from 0". */
    private static void twoToFourOutcomes() {
        for (int n = 1; n <= 5; n++) {
            PredictionMaker x = new PredictionMaker();
            boolean fits = n >= 2 && n <= 4;
            due(n + " outcomes", x.openMarket(60, n, 5), fits ? 0 : BAD_ARGUMENT);
            due("it has them", x.market(0, 2), fits ? n : NONE);
            for (int outcome = -1; outcome <= 5; outcome++) {
                boolean there = fits && outcome >= 0 && outcome < n;
                due("outcome " + outcome + " of " + n, x.shares(0, outcome), there ? 0 : NONE);
            }
        }
    }

    /** "... a condition, which is another market with a lower number and one of its outcomes." */
    private static void conditionHasALowerNumber() {
        PredictionMaker x = new PredictionMaker();
        x.openMarket(60, 3, 50);
        x.openMarket(60, 2, 50);
        String before = stateOf(x);
        refused("itself", x, before, x.openLinked(60, 2, 50, 2, 0), NONE);
        refused("a later one", x, before, x.openLinked(60, 2, 50, 3, 0), NONE);
        due("the one before", x.openLinked(60, 2, 50, 1, 1), 2);
        due("its market", x.market(2, 4), 1);
        due("its outcome", x.market(2, 5), 1);
        due("the first market's last outcome", x.openLinked(60, 2, 50, 0, 2), 3);
        due("its market is 0, not none", x.market(3, 4), 0);
        due("outcome 0 is one, too", x.openLinked(60, 2, 50, 3, 0), 4);
        due("it is not none", x.market(4, 5), 0);
        due("without a condition", x.market(0, 4), -1);
        due("nor its outcome", x.market(0, 5), -1);
    }

    /** "... the number of its shares is the number that all traders hold together". */
    private static void sharesAreWhatAllHold() {
        PredictionMaker x = withMarket(60, 3);
        x.openMarket(5, 2, 100);
        x.buy(0, 0, 1, 7);
        x.buySet(1, 0, 6, 5);
        x.place(2, 0, 0, 3, 2880);
        x.sell(0, 0, 1, 2);
        trade(x, "3+9m0.2;3-4m0.2;4+1m1.1");
        x.buy(5, 1, 1, 50);
        int[][] shares = {{3, 10, 10, NONE}, {0, 51, NONE, NONE}};
        for (int market = 0; market < 2; market++) {
            for (int outcome = 0; outcome < 2 + (1 - market); outcome++) {
                int sum = 0;
                for (int trader = 0; trader < 6; trader++) {
                    sum += x.holding(trader, market, outcome);
                }
                due("all hold of " + market + "." + outcome, sum, shares[market][outcome]);
                due("shares of " + market + "." + outcome, x.shares(market, outcome), sum);
            }
        }
    }

    /** "... 0 to 400": 399, 400 and not 401, in each way in which shares come into being. */
    private static void atMost400Shares() {
        PredictionMaker x = withMarket(60, 2);
        pile(x, 0, 398, 398);
        x.save();
        due("buy 399", x.buy(2, 0, 0, 1), 1446);
        due("buy 400", x.buy(2, 0, 0, 1), 1458);
        refused("buy 401", x, stateOf(x), x.buy(2, 0, 0, 1), FULL);
        x.restore();
        due("buy 400 at once", x.buy(2, 0, 0, 2), 2904);
        x.restore();
        refused("buy 401 at once", x, stateOf(x), x.buy(2, 0, 0, 3), FULL);
        due("a set to 399", x.buySet(2, 0, 3, 1), COIN);
        due("a set to 400", x.buySet(2, 0, 3, 1), COIN);
        refused("a set to 401", x, stateOf(x), x.buySet(2, 0, 3, 1), FULL);
        x.restore();
        due("an order for five", x.place(2, 0, 0, 5, 2880), 0);
        due("buys two", x.order(0, 3), 3);
        due("and then has a full outcome", x.order(0, 5), 3);
        due("400 shares", x.shares(0, 0), 400);
        x.restore();
        due("trades of a text", trade(x, "2+1m0.0;2+1m0.0;2+1m0.0"), 2);
        due("end at 400", x.shares(0, 0), 400);
        due("selling makes room", x.sell(2, 0, 0, 1), 1458);
        due("for one more", x.buy(3, 0, 0, 1), 1458);
        due("400 again", x.shares(0, 0), 400);
    }

    /** "... a trader holds 0 or more shares of each outcome": one left, none left, and not one more. */
    private static void nobodyHoldsLessThanNone() {
        PredictionMaker x = withMarket(60, 2);
        x.buy(0, 0, 0, 2);
        x.buy(1, 0, 0, 50);
        x.buy(0, 0, 1, 2);
        x.sell(0, 0, 0, 1);
        due("one left", x.holding(0, 0, 0), 1);
        refused("two more", x, stateOf(x), x.sell(0, 0, 0, 2), NOT_ENOUGH);
        x.sell(0, 0, 0, 1);
        due("none left", x.holding(0, 0, 0), 0);
        refused("one more", x, stateOf(x), x.sell(0, 0, 0, 1), NOT_ENOUGH);
        due("the other outcome is another matter", x.holding(0, 0, 1), 2);
        due("so is another trader", x.shares(0, 0), 50);
        due("a text sells no more, either", trade(x, "0-2m0.1;0-1m0.1"), 1);
        due("none left of it", x.holding(0, 0, 1), 0);
    }

    /** "A market is open (0), expired (1), settled (2) or void (3)." */
    private static void states() {
        PredictionMaker x = new PredictionMaker();
        x.openMarket(60, 2, 10);
        x.openMarket(60, 2, 10);
        due("open", x.market(0, 0), 0);
        x.tick(9);
        due("still open", x.market(0, 0), 0);
        x.tick(1);
        due("expired", x.market(0, 0), 1);
        x.settle(0, 0);
        due("settled", x.market(0, 0), 2);
        x.cancelMarket(1);
        due("void", x.market(1, 0), 3);
        x.tick(100);
        due("settled for ever", x.market(0, 0), 2);
        due("void for ever", x.market(1, 0), 3);
    }

    /** "The loss bound of a market with n outcomes is 2880 * b * (n - 1) / n." */
    private static void lossBound() {
        int[] ofOne = {0, 0, 1440, 1920, 2160};
        for (int b : DIVISORS) {
            for (int n = 2; n <= 4; n++) {
                PredictionMaker x = withMarket(b, n);
                due("b " + b + ", n " + n, x.market(0, 7), ofOne[n] * b);
                x.buy(0, 0, 0, 50);
                due("whatever is bought", x.market(0, 7), ofOne[n] * b);
                x.cancelMarket(0);
                due("void, too", x.market(0, 7), ofOne[n] * b);
            }
        }
    }

    /** "Its account is what was paid to it minus what it paid." */
    private static void account() {
        PredictionMaker x = withMarket(60, 2);
        due("at first", x.market(0, 6), 0);
        int paid = x.buy(0, 0, 0, 10) + x.buySet(1, 0, 3, 4);
        due("after buying", x.market(0, 6), paid);
        paid -= x.sell(0, 0, 0, 3);
        due("after selling", x.market(0, 6), paid);
        x.place(2, 0, 1, 1, 2880);
        paid += x.history(0, 4);
        due("after an order", x.market(0, 6), paid);
        x.tick(100);
        due("after expiry", x.market(0, 6), paid);
        x.save();
        due("settling pays", x.settle(0, 0), 11 * COIN);
        due("it can have less than nothing", x.market(0, 6), paid - 11 * COIN);
        isTrue("it has", x.market(0, 6) < 0);
        x.restore();
        x.cancelMarket(0);
        due("paying back leaves nothing", x.market(0, 6), 0);
    }

    /** "... and never loses more than a bound": at no time, and with no outcome. */
    private static void neverLosesMore() {
        long seed = 7;
        for (int b : DIVISORS) {
            for (int n = 2; n <= 4; n++) {
                PredictionMaker x = withMarket(b, n);
                x.tick(100 - 1);
                for (int step = 0; step < 60; step++) {
                    seed = seed * 6364136223846793005L + 1442695040888963407L;
                    int what = (int) (seed >>> 33);
                    int trader = what % 6;
                    int outcome = what / 6 % n;
                    int count = 1 + what / 100 % 50;
                    if (what / 5000 % 3 == 0) {
                        x.sell(trader, 0, outcome, Math.min(count, Math.max(1, x.holding(trader, 0, outcome))));
                    } else {
                        x.buy(trader, 0, outcome, count);
                    }
                    isTrue("within the bound", x.market(0, 11) <= x.market(0, 7));
                }
                x.tick(1);
                x.save();
                int least = 0;
                for (int outcome = 0; outcome < n; outcome++) {
                    int loss = x.market(0, 11);
                    x.settle(0, outcome);
                    least = Math.min(least, x.market(0, 6));
                    isTrue("settled within the bound", -x.market(0, 6) <= x.market(0, 7));
                    isTrue("and within what was told", -x.market(0, 6) <= loss);
                    x.restore();
                }
                isTrue("the worst outcome is told", least == Math.min(0, -x.market(0, 11)));
            }
        }
    }
}
