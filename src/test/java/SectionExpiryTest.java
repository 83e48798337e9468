/** "Expiry." of the description, and what the particulars say of it. */
public final class SectionExpiryTest extends Check {
    public static void main(String[] args) {
        aTickIsOne();
        atItsExpiry();
        withinOneCall();
        ordersAreCancelled();
        openOnly();
        tenTicksLater();
        settledOnTheLastTick();
        latestExpiry();
        expireBeforeVoid();
        inAscendingOrder();
        passedOver();
        severalChains();
        end();
    }

    /** "A tick increases the time by 1." */
    private static void aTickIsOne() {
        PredictionMaker x = new PredictionMaker();
        due("one", x.tick(1), 1);
        due("two more", x.tick(2), 3);
        due("a hundred more", x.tick(100), 103);
        refused("no tick", x, stateOf(x), x.tick(0), BAD_ARGUMENT);
        refused("too many ticks", x, stateOf(x), x.tick(101), BAD_ARGUMENT);
        due("the time", x.count(3), 103);
    }

    /** "... each open market whose expiry is at most the time expires": before, at and after it. */
    private static void atItsExpiry() {
        for (int expiry = 1; expiry <= 12; expiry++) {
            PredictionMaker x = new PredictionMaker();
            x.openMarket(60, 2, expiry);
            for (int time = 1; time <= 13; time++) {
                due("the time", x.tick(1), time);
                int due = time < expiry ? 0 : time < expiry + 10 ? 1 : 3;
                due("expiry " + expiry + " at " + time, x.market(0, 0), due);
                due("open markets", x.count(1), due == 0 ? 1 : 0);
            }
            due("the expiry stays", x.market(0, 3), expiry);
        }
    }

    /** Each tick of a call is a tick: what is due on the way happens on the way. */
    private static void withinOneCall() {
        for (int ticks : new int[] {1, 2, 49, 50, 51, 59, 60, 61, 99, 100}) {
            PredictionMaker x = new PredictionMaker();
            x.openMarket(60, 2, 50);
            x.openLinked(60, 2, 100, 0, 0);
            x.tick(ticks);
            int due = ticks < 50 ? 0 : ticks < 60 ? 1 : 3;
            due("after " + ticks, x.market(0, 0), due);
            due("what depends on it, after " + ticks, x.market(1, 0), ticks < 60 ? 0 : 3);
            due("why", x.voidReason(0, 0), ticks < 60 ? NONE : 2);
            due("why that", x.voidReason(1, 0), ticks < 60 ? NONE : 3);
        }
    }

    /** "... its open orders are cancelled", and no others. */
    private static void ordersAreCancelled() {
        PredictionMaker x = withMarket(60, 2);
        x.openMarket(60, 2, 20);
        x.openMarket(60, 2, 21);
        for (int i = 0; i < 9; i++) {
            x.place(i % 6, i % 3, i % 2, 2, 9 - i);
        }
        x.tick(19);
        due("none before", x.count(2), 9);
        x.tick(1);
        due("three at its expiry", x.count(2), 6);
        due("none waits there", x.waiting(1, 0), NONE);
        due("in market 0 they wait", x.waiting(0, 0) * 100 + x.waiting(0, 1) * 10 + x.waiting(0, 2), 36);
        due("in market 2 they wait", x.waiting(2, 0) * 100 + x.waiting(2, 1) * 10 + x.waiting(2, 2), 258);
        due("order 1 is none", x.order(1, 0), NONE);
        due("and cannot be cancelled", x.cancel(1), NONE);
        x.tick(1);
        due("three more", x.count(2), 3);
        due("of one trader each", x.trader(0, 2) + x.trader(3, 2), 3);
        due("nothing is bought by it", x.count(4), 0);
    }

    /** What is settled or void does not expire. */
    private static void openOnly() {
        PredictionMaker x = withMarket(60, 2);
        x.openMarket(60, 2, 20);
        x.openMarket(60, 2, 10);
        x.cancelMarket(1);
        x.tick(10);
        x.settle(2, 0);
        x.tick(10);
        due("void at its expiry", x.market(1, 0), 3);
        due("for its reason", x.voidReason(1, 0), 1);
        x.tick(10);
        due("void ten later", x.voidReason(1, 0), 1);
        due("settled ten later", x.market(2, 0), 2);
        due("nothing is paid back twice", x.count(6), 6 * 500 * COIN);
    }

    /** "... whose expiry plus 10 is at most the time becomes void": 9, 10 and 11 ticks later. */
    private static void tenTicksLater() {
        for (int late = 9; late <= 11; late++) {
            PredictionMaker x = withMarket(60, 2);
            int paid = x.buy(0, 0, 0, 5);
            x.tick(100);
            x.tick(late);
            due(late + " ticks later", x.market(0, 0), late < 10 ? 1 : 3);
            due("why", x.voidReason(0, 0), late < 10 ? NONE : 2);
            due("paid back", x.trader(0, 0), 500 * COIN - (late < 10 ? paid : 0));
            due("the account", x.market(0, 6), late < 10 ? paid : 0);
            due("settled", x.settle(0, 0), late < 10 ? 5 * COIN : STATE);
        }
    }

    private static void settledOnTheLastTick() {
        PredictionMaker x = withMarket(60, 2);
        x.tick(100);
        x.tick(9);
        due("nine ticks later", x.settle(0, 1), 0);
        x.tick(1);
        due("it stays settled", x.market(0, 0), 2);
        due("not void", x.voidReason(0, 0), NONE);
        PredictionMaker y = withMarket(60, 2);
        y.tick(100);
        y.tick(9);
        due("nine ticks later, too", y.cancelMarket(0), 1);
        y.tick(1);
        due("it was cancelled first", y.voidReason(0, 0), 1);
    }

    /** Time goes on beyond the last expiry that a market can have. */
    private static void latestExpiry() {
        PredictionMaker x = new PredictionMaker();
        x.openMarket(60, 2, 999);
        x.openMarket(60, 2, 998);
        for (int i = 0; i < 9; i++) {
            x.tick(100);
        }
        x.tick(97);
        due("at 997", x.market(1, 0), 0);
        x.tick(1);
        due("998 at 998", x.market(1, 0), 1);
        due("999 at 998", x.market(0, 0), 0);
        x.tick(1);
        due("999 at 999", x.market(0, 0), 1);
        x.tick(9);
        due("998 at 1008", x.market(1, 0), 3);
        due("999 at 1008", x.market(0, 0), 1);
        due("the time", x.tick(1), 1009);
        due("999 at 1009", x.market(0, 0), 3);
        due("far beyond", x.tick(100), 1109);
    }

    /** "At last" the expired ones become void: what expires at a tick can do so before that. */
    private static void expireBeforeVoid() {
        PredictionMaker x = withMarket(60, 2);
        x.openMarket(60, 2, 20);
        x.openLinked(60, 2, 30, 1, 0);
        x.buy(0, 2, 0, 5);
        x.place(1, 2, 0, 1, 1);
        x.tick(29);
        due("open before", x.market(2, 0), 0);
        x.tick(1);
        due("market 1 is void at 30", x.voidReason(1, 0), 2);
        due("market 2, which expired at 30, with it", x.voidReason(2, 0), 3);
        due("its order is cancelled", x.count(2), 0);
        due("its money is back", x.trader(0, 0), 500 * COIN);
    }

    /** "... in ascending order of the expiries and of the numbers". */
    private static void inAscendingOrder() {
        PredictionMaker x = new PredictionMaker();
        x.openMarket(60, 2, 30);
        x.openLinked(60, 2, 30, 0, 0);
        x.openLinked(60, 2, 29, 0, 0);
        x.openLinked(60, 2, 31, 0, 0);
        x.tick(38);
        due("the least expiry is not yet due", x.market(2, 0), 1);
        x.tick(1);
        due("the least expiry comes first", x.voidReason(2, 0), 2);
        due("the others do not yet", x.market(0, 0) + x.market(1, 0) + x.market(3, 0), 3);
        x.tick(1);
        due("then the lower number", x.voidReason(0, 0), 2);
        due("of the same expiry the higher one follows", x.voidReason(1, 0), 3);
        due("the later one follows, too", x.voidReason(3, 0), 3);
        due("the first keeps its reason", x.voidReason(2, 0), 2);
    }

    /** "A market that becomes void by another one on the way is passed over afterwards, and keeps the reason 3". */
    private static void passedOver() {
        PredictionMaker x = withMarket(60, 2);
        x.openMarket(60, 2, 20);
        x.openLinked(60, 2, 20, 1, 0);
        x.openLinked(60, 2, 20, 2, 0);
        x.buy(0, 2, 0, 5);
        x.buy(1, 3, 0, 5);
        x.tick(30);
        due("the first", x.voidReason(1, 0), 2);
        due("passed over", x.voidReason(2, 0), 3);
        due("passed over, too", x.voidReason(3, 0), 3);
        due("explained", x.voidReason(3, 1) * 10 + x.voidReason(3, 2), 32);
        due("paid back once", x.trader(0, 0), 500 * COIN);
        due("paid back once, too", x.trader(1, 0), 500 * COIN);
        due("the accounts", x.count(7), 0);
        x.tick(10);
        due("passed over for ever", x.voidReason(2, 0), 3);
    }

    /** "... the markets that depend on one follow it at once, each with its own before the next." */
    private static void severalChains() {
        PredictionMaker x = withMarket(60, 2);
        x.openLinked(60, 2, 400, 0, 0);
        x.openLinked(60, 2, 400, 0, 1);
        x.openLinked(60, 2, 400, 1, 0);
        x.openLinked(60, 2, 400, 2, 1);
        x.openLinked(60, 2, 400, 3, 1);
        for (int market = 0; market < 6; market++) {
            x.buy(market, market, 0, 5);
            x.place(market, market, 1, 1, 1);
        }
        x.tick(100);
        x.tick(9);
        due("all but the first are open", x.count(1), 5);
        x.tick(1);
        due("none is", x.count(1), 0);
        int[] depths = {0, 1, 1, 2, 2, 3};
        for (int market = 0; market < 6; market++) {
            for (int level = 0; level <= 4; level++) {
                int due = level < depths[market] ? 3 : level == depths[market] ? 2 : NONE;
                due("level " + level + " of " + market, x.voidReason(market, level), due);
            }
            due("the balance of " + market, x.trader(market, 0), 500 * COIN);
            due("the account of " + market, x.market(market, 6), 0);
        }
        due("no order is open", x.count(2), 0);
    }
}
