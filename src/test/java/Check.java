/**
 * What the tests share: they compare answers with those that are due and end with exit code 1 if
 * one differs. A test extends this class only to use its names.
 */
abstract class Check {
    static final int NONE = -1000000001;
    static final int BAD_ARGUMENT = -1000000002;
    static final int FULL = -1000000003;
    static final int STATE = -1000000004;
    static final int NOT_ENOUGH = -1000000005;
    static final int COIN = 2880;
    /** Arguments that are outside every range. */
    static final int[] WILD = {Integer.MIN_VALUE, Integer.MIN_VALUE + 1, Integer.MAX_VALUE};

    private static int wrong;
    private static int asked;

    static void due(String call, long got, long want) {
        asked++;
        if (got != want) {
            wrong++;
            System.out.println(call + " answered " + got + ", due is " + want);
        }
    }

    static void isTrue(String what, boolean holds) {
        due(what, holds ? 1 : 0, 1);
    }

    /** The last call of a test. */
    static void end() {
        if (asked == 0) {
            System.out.println("nothing was asked");
        }
        if (wrong != 0 || asked == 0) {
            System.exit(1);
        }
    }

    /** Says that the call answered a refusal, and changed nothing since the state before. */
    static void refused(String call, PredictionMaker x, String before, long got, long want) {
        due(call, got, want);
        isTrue(call + " changes nothing", stateOf(x).equals(before));
    }

    /** Says that the call answered something else than NONE or an error code. */
    static void answered(String call, long got) {
        isTrue(call + " answered " + got, got < NOT_ENOUGH || got > NONE);
    }

    /** A maker with one market of these outcomes that expires at 100, and 500 coins for each. */
    static PredictionMaker withMarket(int liquidity, int outcomes) {
        PredictionMaker x = new PredictionMaker();
        x.openMarket(liquidity, outcomes, 100);
        for (int trader = 0; trader < 6; trader++) {
            x.deposit(trader, 500);
        }
        return x;
    }

    /** Gives the trader exactly these units: 0 to 5000000, from a balance that is not negative. */
    static void setBalance(PredictionMaker x, int trader, int units) {
        if (x.trader(trader, 0) > 0) {
            x.withdraw(trader, x.trader(trader, 0));
        }
        if (units % COIN != 0) {
            x.deposit(trader, 1);
            x.withdraw(trader, COIN - units % COIN);
        }
        for (int left = units / COIN; left > 0; left -= 500) {
            x.deposit(trader, Math.min(left, 500));
        }
        due("the balance that the test needs", x.trader(trader, 0), units);
    }

    /** Buys until the outcomes of the market have these shares; each outcome has a buyer of its own. */
    static void pile(PredictionMaker x, int market, int... shares) {
        for (int outcome = 0; outcome < shares.length; outcome++) {
            fill(x, outcome, market, outcome, shares[outcome]);
            due("the shares that the test needs", x.shares(market, outcome), shares[outcome]);
        }
    }

    /**
     * Makes the trader owe these units, 1080 at most, to nobody else's harm: what was bought cheap
     * in a market of its own and sold dear is paid back when the market becomes void.
     */
    static int owe(PredictionMaker x, int trader, int helper, int units) {
        int market = x.openMarket(1, 2, 999);
        x.buy(trader, market, 0, 1);
        x.buy(helper, market, 0, 50);
        x.sell(trader, market, 0, 1);
        setBalance(x, trader, 1080 - units);
        x.cancelMarket(market);
        due("the debt that the test needs", x.trader(trader, 0), -units);
        return market;
    }

    /** Appends the characters one by one. */
    static void write(PredictionMaker x, String text) {
        for (int i = 0; i < text.length(); i++) {
            x.append(text.charAt(i), 1);
        }
    }

    /** Writes the text and trades it. */
    static int trade(PredictionMaker x, String text) {
        write(x, text);
        return x.trade();
    }

    /** Buys shares of an outcome by fifties until there are that many of it. */
    static void fill(PredictionMaker x, int trader, int market, int outcome, int shares) {
        while (x.shares(market, outcome) < shares) {
            int missing = shares - x.shares(market, outcome);
            if (x.buy(trader, market, outcome, Math.min(50, missing)) < 0) {
                throw new IllegalStateException("the test cannot buy");
            }
        }
    }

    /**
     * All that can be asked of the maker but the characters of its text, as one text: to see that
     * a refused call changed nothing.
     */
    static String stateOf(PredictionMaker x) {
        StringBuilder out = new StringBuilder();
        for (int what = 0; what < 8; what++) {
            out.append(x.count(what)).append(' ');
        }
        for (int m = 0; m < 6; m++) {
            for (int what = 0; what < 12; what++) {
                out.append(x.market(m, what)).append(' ');
            }
            for (int level = 0; level < 6; level++) {
                out.append(x.voidReason(m, level)).append(' ');
            }
            for (int o = 0; o < 4; o++) {
                out.append(x.shares(m, o)).append(' ');
                for (int t = 0; t < 6; t++) {
                    out.append(x.holding(t, m, o)).append(' ');
                }
            }
            for (int position = 0; position < 17; position++) {
                int number = x.waiting(m, position);
                out.append(number).append(' ');
                for (int what = 0; what < 6; what++) {
                    out.append(x.order(number, what)).append(' ');
                }
            }
        }
        for (int t = 0; t < 6; t++) {
            for (int what = 0; what < 4; what++) {
                out.append(x.trader(t, what)).append(' ');
            }
            for (int m = 0; m < 6; m++) {
                out.append(x.paid(t, m)).append(' ');
            }
        }
        for (int index = 0; index < 31; index++) {
            for (int what = 0; what < 6; what++) {
                out.append(x.history(index, what)).append(' ');
            }
        }
        return out.toString();
    }
}
