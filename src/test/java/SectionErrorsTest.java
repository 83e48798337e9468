/**
 * "Errors. A call that returns an error code changes nothing, except that trade empties the text.
 * If several errors apply, the one that is listed first at the method is returned."
 *
 * <p>For each method with more than one refusal, every combination of what can be wrong: which
 * refusals apply is told by the test from the arguments, and the first in the document's list is
 * due. RefusedTest looks for what a refusal could have changed in secret.
 */
public final class SectionErrorsTest extends Check {
    private static final int FINE = 0;
    /** Balances by which a coin or 500 coins more just fit, or just do not. */
    private static final int[] NEAR_FULL = {
        0, 3559999, 3560000, 3560001, 4997119, 4997120, 4997121, 4999999, 5000000,
    };

    private static int combinations;

    /** A code if it applies. */
    private static int when(boolean applies, int code) {
        return applies ? code : FINE;
    }

    /** The first code that applies. */
    private static int first(int... codes) {
        for (int code : codes) {
            if (code != FINE) {
                return code;
            }
        }
        return FINE;
    }

    /** Compares an answer with the refusal that is due, if one is, and looks that nothing changed. */
    private static void compare(String call, PredictionMaker x, String before, int got, int due) {
        combinations++;
        if (due == FINE) {
            answered(call, got);
        } else {
            refused(call, x, before, got, due);
        }
    }

    public static void main(String[] args) {
        openMarket();
        openLinked();
        deposit();
        withdraw();
        cost();
        buy();
        buySet();
        sell();
        place();
        order();
        settle();
        cancelMarket();
        market();
        sharesFor();
        history();
        append();
        tradeEmptiesTheText();
        isTrue("there were many combinations: " + combinations, combinations > 1000);
        end();
    }

    /** BAD_ARGUMENT, FULL. */
    private static void openMarket() {
        for (int markets = 5; markets <= 6; markets++) {
            for (int liquidity : new int[] {60, 7}) {
                for (int outcomes : new int[] {4, 5}) {
                    for (int expiry : new int[] {999, 1000}) {
                        PredictionMaker x = new PredictionMaker();
                        for (int i = 0; i < markets; i++) {
                            x.openMarket(60, 2, 5);
                        }
                        String before = stateOf(x);
                        boolean bad = liquidity == 7 || outcomes == 5 || expiry == 1000;
                        int due = first(when(bad, BAD_ARGUMENT), when(markets == 6, FULL));
                        compare("openMarket", x, before, x.openMarket(liquidity, outcomes, expiry), due);
                    }
                }
            }
        }
    }

    /** Market 0 is open, 1 expired, 2 settled, 3 void; each has two outcomes. */
    private static PredictionMaker fourStates(int liquidity) {
        PredictionMaker x = new PredictionMaker();
        x.openMarket(liquidity, 2, 300);
        x.openMarket(liquidity, 2, 10);
        x.openMarket(liquidity, 2, 10);
        x.openMarket(liquidity, 2, 10);
        return x;
    }

    private static void endThree(PredictionMaker x) {
        x.tick(10);
        x.settle(2, 1);
        x.cancelMarket(3);
    }

    /** BAD_ARGUMENT, NONE, STATE, FULL. */
    private static void openLinked() {
        for (int markets = 5; markets <= 6; markets++) {
            for (int bad = 0; bad < 4; bad++) {
                for (int market = -1; market <= 6; market++) {
                    for (int outcome = -1; outcome <= 2; outcome++) {
                        PredictionMaker x = fourStates(60);
                        endThree(x);
                        for (int i = 4; i < markets; i++) {
                            x.openMarket(60, 2, 300);
                        }
                        int[] a = {bad == 1 ? 0 : 1, bad == 2 ? 1 : 2, bad == 3 ? 10 : 11};
                        boolean none = market < 0 || market >= markets || outcome < 0 || outcome > 1;
                        int due = first(when(bad > 0, BAD_ARGUMENT), when(none, NONE),
                                when(market == 2 || market == 3, STATE), when(markets == 6, FULL));
                        String before = stateOf(x);
                        int got = x.openLinked(a[0], a[1], a[2], market, outcome);
                        compare("openLinked to " + market + "." + outcome, x, before, got, due);
                    }
                }
            }
        }
    }

    /** BAD_ARGUMENT, FULL. */
    private static void deposit() {
        for (int trader : new int[] {-1, 0, 6}) {
            for (int coins : new int[] {0, 1, 500, 501}) {
                for (int balance : NEAR_FULL) {
                    PredictionMaker x = new PredictionMaker();
                    setBalance(x, 0, balance);
                    boolean bad = trader != 0 || coins < 1 || coins > 500;
                    boolean full = balance + coins * COIN > 5000000;
                    int due = first(when(bad, BAD_ARGUMENT), when(full, FULL));
                    String before = stateOf(x);
                    String call = "deposit(" + trader + ", " + coins + ") to " + balance;
                    compare(call, x, before, x.deposit(trader, coins), due);
                }
            }
        }
    }

    /** BAD_ARGUMENT, NOT_ENOUGH. */
    private static void withdraw() {
        for (int trader : new int[] {-1, 0, 6}) {
            for (int units : new int[] {-1, 0, 1, 2, 4999999, 5000000, 5000001}) {
                for (int balance : new int[] {0, 1, 4999999, 5000000}) {
                    PredictionMaker x = new PredictionMaker();
                    setBalance(x, 0, balance);
                    boolean bad = trader != 0 || units < 1 || units > 5000000;
                    int due = first(when(bad, BAD_ARGUMENT), when(balance < units, NOT_ENOUGH));
                    String before = stateOf(x);
                    String call = "withdraw(" + trader + ", " + units + ") from " + balance;
                    compare(call, x, before, x.withdraw(trader, units), due);
                }
            }
        }
    }

    /** NONE, BAD_ARGUMENT, FULL. */
    private static void cost() {
        PredictionMaker x = withMarket(60, 2);
        pile(x, 0, 20, 380);
        String before = stateOf(x);
        for (int market = -1; market <= 1; market++) {
            for (int outcome = -1; outcome <= 2; outcome++) {
                for (int count : new int[] {-51, -50, -21, -20, -19, -1, 0, 1, 19, 20, 21, 50, 51}) {
                    boolean none = market != 0 || outcome < 0 || outcome > 1;
                    boolean bad = count == 0 || count < -50 || count > 50;
                    int after = (outcome == 0 ? 20 : 380) + count;
                    int due = first(when(none, NONE), when(bad, BAD_ARGUMENT),
                            when(after < 0 || after > 400, FULL));
                    String call = "cost(" + market + ", " + outcome + ", " + count + ")";
                    compare(call, x, before, x.cost(market, outcome, count), due);
                }
            }
        }
    }

    /** Each market with 380 shares of outcome 0, and 370 of outcome 1; trader 5 has nothing. */
    private static PredictionMaker piled() {
        PredictionMaker x = fourStates(60);
        for (int market = 0; market < 4; market++) {
            for (int outcome = 0; outcome < 2; outcome++) {
                int trader = market;
                x.deposit(trader, 500);
                fill(x, trader, market, outcome, outcome == 0 ? 380 : 370);
            }
        }
        x.deposit(0, 500);
        return x;
    }

    /** BAD_ARGUMENT, NONE, STATE, FULL, NOT_ENOUGH. */
    private static void buy() {
        PredictionMaker x = piled();
        endThree(x);
        x.save();
        String before = stateOf(x);
        for (int trader : new int[] {-1, 0, 5, 6}) {
            for (int market = -1; market <= 4; market++) {
                for (int outcome = -1; outcome <= 2; outcome++) {
                    for (int count : new int[] {0, 1, 20, 21, 30, 31, 50, 51}) {
                        boolean bad = trader < 0 || trader > 5 || count < 1 || count > 50;
                        boolean none = market < 0 || market > 3 || outcome < 0 || outcome > 1;
                        boolean full = count > (outcome == 0 ? 20 : 30);
                        int due = first(when(bad, BAD_ARGUMENT), when(none, NONE),
                                when(market > 0, STATE), when(full, FULL), when(trader == 5, NOT_ENOUGH));
                        String call = "buy(" + trader + ", " + market + ", " + outcome + ", " + count + ")";
                        compare(call, x, before, x.buy(trader, market, outcome, count), due);
                        x.restore();
                    }
                }
            }
        }
    }

    /** BAD_ARGUMENT, NONE, BAD_ARGUMENT for the set, STATE, FULL, NOT_ENOUGH. */
    private static void buySet() {
        PredictionMaker x = piled();
        endThree(x);
        x.save();
        String before = stateOf(x);
        for (int trader : new int[] {-1, 0, 5, 6}) {
            for (int market = -1; market <= 4; market++) {
                for (int set = -1; set <= 8; set++) {
                    for (int count : new int[] {0, 1, 20, 21, 30, 31, 51}) {
                        boolean bad = trader < 0 || trader > 5 || count < 1 || count > 50;
                        boolean badSet = set < 1 || set > 3;
                        boolean full = (set & 1) != 0 && count > 20 || (set & 2) != 0 && count > 30;
                        int due = first(when(bad, BAD_ARGUMENT), when(market < 0 || market > 3, NONE),
                                when(badSet, BAD_ARGUMENT), when(market > 0, STATE),
                                when(full, FULL), when(trader == 5, NOT_ENOUGH));
                        String call = "buySet(" + trader + ", " + market + ", " + set + ", " + count + ")";
                        compare(call, x, before, x.buySet(trader, market, set, count), due);
                        x.restore();
                    }
                }
            }
        }
    }

    /** BAD_ARGUMENT, NONE, STATE, NOT_ENOUGH. */
    private static void sell() {
        PredictionMaker x = fourStates(60);
        for (int market = 0; market < 4; market++) {
            x.deposit(market, 100);
            x.buySet(market, market, 3, 50);
            x.deposit(5, 30);
            x.buySet(5, market, 3, 7);
        }
        endThree(x);
        x.save();
        String before = stateOf(x);
        for (int trader : new int[] {-1, 0, 5, 6}) {
            for (int market = -1; market <= 4; market++) {
                for (int outcome = -1; outcome <= 2; outcome++) {
                    for (int count : new int[] {0, 1, 6, 7, 8, 49, 50, 51}) {
                        boolean bad = trader < 0 || trader > 5 || count < 1 || count > 50;
                        boolean none = market < 0 || market > 3 || outcome < 0 || outcome > 1;
                        int held = trader == 5 ? 7 : trader == market ? 50 : 0;
                        int due = first(when(bad, BAD_ARGUMENT), when(none, NONE),
                                when(market > 0, STATE), when(held < count, NOT_ENOUGH));
                        String call = "sell(" + trader + ", " + market + ", " + outcome + ", " + count + ")";
                        compare(call, x, before, x.sell(trader, market, outcome, count), due);
                        x.restore();
                    }
                }
            }
        }
    }

    /** BAD_ARGUMENT, NONE, STATE, FULL. */
    private static void place() {
        for (int open = 15; open <= 16; open++) {
            PredictionMaker x = fourStates(60);
            endThree(x);
            for (int i = 0; i < open; i++) {
                x.place(i % 6, 0, i % 2, 1, 1);
            }
            x.save();
            String before = stateOf(x);
            for (int trader : new int[] {-1, 0, 5, 6}) {
                for (int market = -1; market <= 4; market++) {
                    for (int outcome = -1; outcome <= 2; outcome++) {
                        for (int bad = 0; bad < 5; bad++) {
                            boolean none = market < 0 || market > 3 || outcome < 0 || outcome > 1;
                            boolean out = trader < 0 || trader > 5 || bad > 0;
                            int due = first(when(out, BAD_ARGUMENT), when(none, NONE),
                                    when(market > 0, STATE), when(open == 16, FULL));
                            int count = bad == 1 ? 0 : bad == 2 ? 51 : 50;
                            int limit = bad == 3 ? 0 : bad == 4 ? 2881 : 2880;
                            String call = "place(" + trader + ", " + market + ", " + outcome + ")";
                            int got = x.place(trader, market, outcome, count, limit);
                            compare(call, x, before, got, due);
                            x.restore();
                        }
                    }
                }
            }
        }
    }

    /** NONE, BAD_ARGUMENT. */
    private static void order() {
        PredictionMaker x = withMarket(60, 2);
        x.place(0, 0, 0, 1, 1);
        x.place(0, 0, 0, 1, 2880);
        String before = stateOf(x);
        for (int order = -1; order <= 2; order++) {
            for (int what = -1; what <= 6; what++) {
                int due = first(when(order != 0, NONE), when(what < 0 || what > 5, BAD_ARGUMENT));
                compare("order(" + order + ", " + what + ")", x, before, x.order(order, what), due);
            }
        }
    }

    /** NONE, STATE: market 4 is expired and has a condition whose market is not settled. */
    private static void settle() {
        PredictionMaker x = fourStates(60);
        x.openLinked(60, 2, 10, 0, 0);
        endThree(x);
        x.save();
        String before = stateOf(x);
        for (int market = -1; market <= 5; market++) {
            for (int outcome = -1; outcome <= 2; outcome++) {
                boolean none = market < 0 || market > 4 || outcome < 0 || outcome > 1;
                int due = first(when(none, NONE), when(market != 1, STATE));
                String call = "settle(" + market + ", " + outcome + ")";
                compare(call, x, before, x.settle(market, outcome), due);
                x.restore();
            }
        }
    }

    /** NONE, STATE. */
    private static void cancelMarket() {
        PredictionMaker x = fourStates(60);
        endThree(x);
        x.save();
        String before = stateOf(x);
        for (int market = -1; market <= 4; market++) {
            int due = first(when(market < 0 || market > 3, NONE), when(market > 1, STATE));
            compare("cancelMarket(" + market + ")", x, before, x.cancelMarket(market), due);
            x.restore();
        }
    }

    /** NONE, BAD_ARGUMENT. */
    private static void market() {
        PredictionMaker x = withMarket(60, 2);
        String before = stateOf(x);
        for (int market = -1; market <= 1; market++) {
            for (int what = -1; what <= 12; what++) {
                int due = first(when(market != 0, NONE), when(what < 0 || what > 11, BAD_ARGUMENT));
                compare("market(" + market + ", " + what + ")", x, before, x.market(market, what), due);
            }
        }
    }

    /** NONE, BAD_ARGUMENT, FULL. */
    private static void sharesFor() {
        PredictionMaker x = withMarket(60, 2);
        fill(x, 0, 0, 0, 300);
        String before = stateOf(x);
        for (int market = -1; market <= 1; market++) {
            for (int outcome = -1; outcome <= 2; outcome++) {
                for (int units : new int[] {0, 1, 2640, 2641, 2880, 2881}) {
                    boolean none = market != 0 || outcome < 0 || outcome > 1;
                    int due = first(when(none, NONE), when(units < 1 || units > 2880, BAD_ARGUMENT),
                            when(outcome == 1 && units > 2640, FULL));
                    String call = "sharesFor(" + market + ", " + outcome + ", " + units + ")";
                    compare(call, x, before, x.sharesFor(market, outcome, units), due);
                }
            }
        }
    }

    /** NONE, BAD_ARGUMENT. */
    private static void history() {
        PredictionMaker x = withMarket(60, 2);
        x.buy(0, 0, 0, 1);
        String before = stateOf(x);
        for (int index = -1; index <= 1; index++) {
            for (int what = -1; what <= 6; what++) {
                int due = first(when(index != 0, NONE), when(what < 0 || what > 5, BAD_ARGUMENT));
                compare("history(" + index + ", " + what + ")", x, before, x.history(index, what), due);
            }
        }
    }

    /** BAD_ARGUMENT, FULL. */
    private static void append() {
        for (int length : new int[] {0, 1, 10, 59, 60}) {
            for (int code : new int[] {-1, 0, 127, 128}) {
                for (int count : new int[] {0, 1, 50, 51, 59, 60, 61}) {
                    PredictionMaker x = new PredictionMaker();
                    if (length > 0) {
                        x.append('0', length);
                    }
                    String before = stateOf(x);
                    boolean bad = code < 0 || code > 127 || count < 1 || count > 60;
                    int due = first(when(bad, BAD_ARGUMENT), when(length + count > 60, FULL));
                    String call = "append(" + code + ", " + count + ") behind " + length;
                    compare(call, x, before, x.append(code, count), due);
                }
            }
        }
    }

    /** "Except that trade empties the text": after a syntax error, and after a refused trade. */
    private static void tradeEmptiesTheText() {
        PredictionMaker x = withMarket(60, 2);
        x.place(1, 0, 0, 1, 1);
        x.buy(2, 0, 1, 3);
        x.save();
        String before = stateOf(x);
        refused("an empty text", x, before, x.trade(), -2000);
        refused("a text of a sign", x, before, trade(x, "x"), -2000);
        refused("a text that ends too early", x, before, trade(x, "0+1m0."), -2006);
        refused("a right trade before the wrong sign", x, before, trade(x, "0+1m0.0!"), -2007);
        due("no character is left", x.count(5), 0);
        refused("refused by buy", x, before, trade(x, "0+1m1.0"), 0);
        refused("refused by sell", x, before, trade(x, "0-1m0.0"), 0);
        due("none is left here, either", x.count(5), 0);
        due("an empty text again", x.trade(), -2000);
        due("a right one", trade(x, "0+1m0.0"), 1);
        due("leaves none, either", x.count(5), 0);
    }
}
