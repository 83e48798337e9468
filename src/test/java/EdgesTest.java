import java.util.function.Supplier;

/**
 * Every range of an argument that the document names, method by method: the two values at each
 * edge and the ones just inside are taken, the ones just outside and some far outside are refused
 * with the code that the document gives them, and change nothing.
 */
public final class EdgesTest extends Check {
    /** A method of the class, with its arguments in a row. */
    private interface Call {
        int of(PredictionMaker x, int[] arguments);
    }

    private static final int[] DIVISORS = {1, 2, 3, 4, 5, 6, 10, 12, 15, 20, 30, 60};

    private final String name;
    private final Supplier<PredictionMaker> maker;
    private final Call call;
    private final int[] inside;

    /** Calls of a method on new makers of a kind, with these arguments but for the one in question. */
    private EdgesTest(String name, Supplier<PredictionMaker> maker, Call call, int... inside) {
        this.name = name;
        this.maker = maker;
        this.call = call;
        this.inside = inside;
    }

    private int[] with(int index, int value) {
        int[] arguments = inside.clone();
        arguments[index] = value;
        return arguments;
    }

    private EdgesTest taken(int index, int value) {
        String told = name + ", argument " + index + " = " + value;
        answered(told, call.of(maker.get(), with(index, value)));
        return this;
    }

    private EdgesTest refused(int index, int value, int code) {
        String told = name + ", argument " + index + " = " + value;
        PredictionMaker x = maker.get();
        refused(told, x, stateOf(x), call.of(x, with(index, value)), code);
        return this;
    }

    /** The argument may be from least to most, and outside is answered with the code. */
    private EdgesTest range(int index, int least, int most, int code) {
        taken(index, least).taken(index, least + 1).taken(index, most - 1).taken(index, most);
        refused(index, least - 1, code).refused(index, most + 1, code);
        for (int wild : WILD) {
            refused(index, wild, code);
        }
        return this;
    }

    /** Six open markets of four outcomes; each trader has 50 shares of each outcome, and 200 coins. */
    private static PredictionMaker busy() {
        PredictionMaker x = new PredictionMaker();
        for (int i = 0; i < 6; i++) {
            x.openMarket(60, 4, 100);
            x.deposit(i, 500);
        }
        for (int market = 0; market < 6; market++) {
            for (int trader = 0; trader < 6; trader++) {
                due("fifty sets", x.buySet(trader, market, 15, 50), 50 * COIN);
            }
        }
        return x;
    }

    private static PredictionMaker expired() {
        PredictionMaker x = busy();
        x.tick(100);
        return x;
    }

    private static PredictionMaker sixMarkets() {
        PredictionMaker x = new PredictionMaker();
        for (int i = 0; i < 6; i++) {
            x.openMarket(60, 4, 100);
        }
        return x;
    }

    /** Sixteen open orders in so many markets by turns: of six markets, the last two have two each. */
    private static PredictionMaker ordered(int markets) {
        PredictionMaker x = sixMarkets();
        for (int i = 0; i < 16; i++) {
            due("an order", x.place(i % 6, i % markets, i % 4, 1 + i, 1 + i), i);
        }
        return x;
    }

    /** Each market depends on the one before it, and all became void by the first. */
    private static PredictionMaker chain() {
        PredictionMaker x = new PredictionMaker();
        x.openMarket(60, 2, 100);
        for (int i = 1; i < 6; i++) {
            x.openLinked(60, 2, 100, i - 1, 1);
        }
        due("all six", x.cancelMarket(0), 6);
        return x;
    }

    private static PredictionMaker rich() {
        PredictionMaker x = new PredictionMaker();
        for (int trader = 0; trader < 6; trader++) {
            setBalance(x, trader, 5000000);
        }
        return x;
    }

    /** Two markets of n outcomes, and this time. */
    private static PredictionMaker two(int n, int time) {
        PredictionMaker x = new PredictionMaker();
        x.openMarket(60, n, 999);
        x.openMarket(60, n, 999);
        for (int left = time; left > 0; left -= 100) {
            x.tick(Math.min(left, 100));
        }
        return x;
    }

    private static void opening() {
        for (int time : new int[] {0, 1, 57, 996}) {
            Supplier<PredictionMaker> maker = () -> two(4, time);
            EdgesTest open = new EdgesTest("openMarket", maker,
                    (x, a) -> x.openMarket(a[0], a[1], a[2]), 60, 4, 999);
            EdgesTest link = new EdgesTest("openLinked", maker,
                    (x, a) -> x.openLinked(a[0], a[1], a[2], a[3], a[4]), 60, 4, 999, 0, 0);
            open.range(1, 2, 4, BAD_ARGUMENT).range(2, time + 1, 999, BAD_ARGUMENT);
            link.range(1, 2, 4, BAD_ARGUMENT).range(2, time + 1, 999, BAD_ARGUMENT);
            link.range(3, 0, 1, NONE).range(4, 0, 3, NONE);
        }
        for (int n = 2; n <= 4; n++) {
            int outcomes = n;
            new EdgesTest("openLinked to one of " + n, () -> two(outcomes, 0),
                    (x, a) -> x.openLinked(60, 2, 5, 0, a[0]), 0).range(0, 0, n - 1, NONE);
        }
        liquidities();
        late();
    }

    private static void liquidities() {
        EdgesTest open = new EdgesTest("openMarket", () -> two(2, 0),
                (x, a) -> x.openMarket(a[0], 2, 5), 60);
        EdgesTest link = new EdgesTest("openLinked", () -> two(2, 0),
                (x, a) -> x.openLinked(a[0], 2, 5, 0, 0), 60);
        boolean[] divides = new boolean[62];
        for (int divisor : DIVISORS) {
            divides[divisor] = true;
            open.taken(0, divisor).refused(0, -divisor, BAD_ARGUMENT);
            link.taken(0, divisor).refused(0, -divisor, BAD_ARGUMENT);
        }
        for (int liquidity = 0; liquidity < 62; liquidity++) {
            if (!divides[liquidity]) {
                open.refused(0, liquidity, BAD_ARGUMENT);
                link.refused(0, liquidity, BAD_ARGUMENT);
            }
        }
        for (int far : new int[] {120, 3600, -61, Integer.MIN_VALUE, Integer.MAX_VALUE}) {
            open.refused(0, far, BAD_ARGUMENT);
            link.refused(0, far, BAD_ARGUMENT);
        }
    }

    /** The last time at which a market can be opened is 998. */
    private static void late() {
        EdgesTest before = new EdgesTest("openMarket at 998", () -> two(2, 998),
                (x, a) -> x.openMarket(60, 2, a[0]), 999);
        before.taken(0, 999).refused(0, 998, BAD_ARGUMENT).refused(0, 1000, BAD_ARGUMENT);
        EdgesTest at = new EdgesTest("openMarket at 999", () -> two(2, 999),
                (x, a) -> x.openMarket(60, 2, a[0]), 999);
        at.refused(0, 998, BAD_ARGUMENT).refused(0, 999, BAD_ARGUMENT).refused(0, 1000, BAD_ARGUMENT);
    }

    private static void money() {
        new EdgesTest("deposit", EdgesTest::busy, (x, a) -> x.deposit(a[0], a[1]), 0, 1)
                .range(0, 0, 5, BAD_ARGUMENT).range(1, 1, 500, BAD_ARGUMENT);
        new EdgesTest("withdraw", EdgesTest::rich, (x, a) -> x.withdraw(a[0], a[1]), 0, 1)
                .range(0, 0, 5, BAD_ARGUMENT).range(1, 1, 5000000, BAD_ARGUMENT);
    }

    private static void trading() {
        new EdgesTest("cost", EdgesTest::busy, (x, a) -> x.cost(a[0], a[1], a[2]), 0, 0, 1)
                .range(0, 0, 5, NONE).range(1, 0, 3, NONE).range(2, -50, 50, BAD_ARGUMENT)
                .taken(2, -1).refused(2, 0, BAD_ARGUMENT).taken(2, 1);
        new EdgesTest("buy", EdgesTest::busy, (x, a) -> x.buy(a[0], a[1], a[2], a[3]), 0, 0, 0, 1)
                .range(0, 0, 5, BAD_ARGUMENT).range(1, 0, 5, NONE).range(2, 0, 3, NONE)
                .range(3, 1, 50, BAD_ARGUMENT);
        new EdgesTest("buySet", EdgesTest::busy, (x, a) -> x.buySet(a[0], a[1], a[2], a[3]), 0, 0, 1, 1)
                .range(0, 0, 5, BAD_ARGUMENT).range(1, 0, 5, NONE).range(2, 1, 15, BAD_ARGUMENT)
                .range(3, 1, 50, BAD_ARGUMENT);
        new EdgesTest("sell", EdgesTest::busy, (x, a) -> x.sell(a[0], a[1], a[2], a[3]), 0, 0, 0, 1)
                .range(0, 0, 5, BAD_ARGUMENT).range(1, 0, 5, NONE).range(2, 0, 3, NONE)
                .range(3, 1, 50, BAD_ARGUMENT);
        new EdgesTest("place", EdgesTest::busy,
                (x, a) -> x.place(a[0], a[1], a[2], a[3], a[4]), 0, 0, 0, 1, 1)
                .range(0, 0, 5, BAD_ARGUMENT).range(1, 0, 5, NONE).range(2, 0, 3, NONE)
                .range(3, 1, 50, BAD_ARGUMENT).range(4, 1, 2880, BAD_ARGUMENT);
    }

    private static void orders() {
        Supplier<PredictionMaker> one = () -> ordered(1);
        new EdgesTest("cancel", one, (x, a) -> x.cancel(a[0]), 0).range(0, 0, 15, NONE);
        new EdgesTest("order", one, (x, a) -> x.order(a[0], a[1]), 0, 0)
                .range(0, 0, 15, NONE).range(1, 0, 5, BAD_ARGUMENT);
        new EdgesTest("waiting", one, (x, a) -> x.waiting(0, a[0]), 0).range(0, 0, 15, NONE);
        new EdgesTest("waiting", () -> ordered(6), (x, a) -> x.waiting(a[0], 0), 0).range(0, 0, 5, NONE);
        new EdgesTest("waiting", () -> ordered(6), (x, a) -> x.waiting(3, a[0]), 0).range(0, 0, 2, NONE);
        new EdgesTest("waiting", () -> ordered(6), (x, a) -> x.waiting(4, a[0]), 0).range(0, 0, 1, NONE);
    }

    private static void markets() {
        new EdgesTest("tick", EdgesTest::busy, (x, a) -> x.tick(a[0]), 1).range(0, 1, 100, BAD_ARGUMENT);
        new EdgesTest("settle", EdgesTest::expired, (x, a) -> x.settle(a[0], a[1]), 0, 0)
                .range(0, 0, 5, NONE).range(1, 0, 3, NONE);
        new EdgesTest("cancelMarket", EdgesTest::busy, (x, a) -> x.cancelMarket(a[0]), 0)
                .range(0, 0, 5, NONE);
        new EdgesTest("market", EdgesTest::busy, (x, a) -> x.market(a[0], a[1]), 0, 0)
                .range(0, 0, 5, NONE).range(1, 0, 11, BAD_ARGUMENT);
        new EdgesTest("price", EdgesTest::busy, (x, a) -> x.price(a[0], a[1]), 0, 0)
                .range(0, 0, 5, NONE).range(1, 0, 3, NONE);
        new EdgesTest("sharesFor", EdgesTest::sixMarkets, (x, a) -> x.sharesFor(a[0], a[1], a[2]), 0, 0, 1)
                .range(0, 0, 5, NONE).range(1, 0, 3, NONE).range(2, 1, 2880, BAD_ARGUMENT);
        new EdgesTest("voidReason", EdgesTest::chain, (x, a) -> x.voidReason(a[0], a[1]), 5, 0)
                .range(0, 0, 5, NONE).range(1, 0, 5, NONE);
        new EdgesTest("voidReason", EdgesTest::chain, (x, a) -> x.voidReason(a[0], a[1]), 1, 0)
                .range(1, 0, 1, NONE);
        new EdgesTest("shares", EdgesTest::busy, (x, a) -> x.shares(a[0], a[1]), 0, 0)
                .range(0, 0, 5, NONE).range(1, 0, 3, NONE);
    }

    private static void traders() {
        new EdgesTest("holding", EdgesTest::busy, (x, a) -> x.holding(a[0], a[1], a[2]), 0, 0, 0)
                .range(0, 0, 5, NONE).range(1, 0, 5, NONE).range(2, 0, 3, NONE);
        new EdgesTest("trader", EdgesTest::busy, (x, a) -> x.trader(a[0], a[1]), 0, 0)
                .range(0, 0, 5, BAD_ARGUMENT).range(1, 0, 3, BAD_ARGUMENT);
        new EdgesTest("paid", EdgesTest::busy, (x, a) -> x.paid(a[0], a[1]), 0, 0)
                .range(0, 0, 5, NONE).range(1, 0, 5, NONE);
        new EdgesTest("affordable", EdgesTest::busy, (x, a) -> x.affordable(a[0], a[1], a[2]), 0, 0, 0)
                .range(0, 0, 5, NONE).range(1, 0, 5, NONE).range(2, 0, 3, NONE);
    }

    private static void rest() {
        new EdgesTest("history", EdgesTest::busy, (x, a) -> x.history(a[0], a[1]), 0, 0)
                .range(0, 0, 29, NONE).range(1, 0, 5, BAD_ARGUMENT);
        new EdgesTest("count", EdgesTest::busy, (x, a) -> x.count(a[0]), 0).range(0, 0, 7, BAD_ARGUMENT);
        new EdgesTest("append", EdgesTest::busy, (x, a) -> x.append(a[0], a[1]), 0, 1)
                .range(0, 0, 127, BAD_ARGUMENT).range(1, 1, 60, BAD_ARGUMENT);
    }

    /** The numbers of markets and outcomes end where the markets and outcomes end. */
    private static void fewer() {
        for (int markets = 1; markets <= 5; markets++) {
            PredictionMaker x = new PredictionMaker();
            for (int i = 0; i < markets; i++) {
                x.openMarket(60, 2 + i % 3, 100);
            }
            x.deposit(0, 500);
            String before = stateOf(x);
            for (int market = 0; market < 6; market++) {
                int outcomes = market < markets ? 2 + market % 3 : 0;
                for (int outcome = 0; outcome < 5; outcome++) {
                    absent(x, before, market, outcome, outcome < outcomes);
                }
                due("market " + market, x.market(market, 2), market < markets ? outcomes : NONE);
                due("paid to it", x.paid(0, market), market < markets ? 0 : NONE);
            }
        }
    }

    private static void absent(PredictionMaker x, String before, int market, int outcome, boolean there) {
        String told = " of outcome " + outcome + " of market " + market;
        due("shares" + told, x.shares(market, outcome), there ? 0 : NONE);
        due("holding" + told, x.holding(0, market, outcome), there ? 0 : NONE);
        if (there) {
            answered("price" + told, x.price(market, outcome));
            answered("cost" + told, x.cost(market, outcome, 1));
            answered("sharesFor" + told, x.sharesFor(market, outcome, 2880));
            due("affordable" + told, x.affordable(0, market, outcome), 50);
            return;
        }
        due("price" + told, x.price(market, outcome), NONE);
        due("cost" + told, x.cost(market, outcome, 1), NONE);
        due("sharesFor" + told, x.sharesFor(market, outcome, 2880), NONE);
        due("affordable" + told, x.affordable(0, market, outcome), NONE);
        refused("buy" + told, x, before, x.buy(0, market, outcome, 1), NONE);
        refused("sell" + told, x, before, x.sell(0, market, outcome, 1), NONE);
        refused("place" + told, x, before, x.place(0, market, outcome, 1, 1), NONE);
        refused("settle" + told, x, before, x.settle(market, outcome), NONE);
        refused("openLinked" + told, x, before, x.openLinked(60, 2, 5, market, outcome), NONE);
    }

    public static void main(String[] args) {
        opening();
        money();
        trading();
        orders();
        markets();
        traders();
        rest();
        fewer();
        end();
    }
}
