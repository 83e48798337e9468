/** Promise 6: cost, and the rule by which shares cost. */
public final class Promise06CostTest extends Check {
    public static void main(String[] args) {
        twoOutcomes();
        moreOutcomes();
        edges();
        anyState();
        end();
    }

    /** With two even outcomes, n shares cost 1440 * n + 360 / b * n * n, while both are active. */
    private static void twoOutcomes() {
        for (int b : new int[] {1, 2, 3, 4, 5, 6, 10, 12, 15, 20, 30, 60}) {
            PredictionMaker x = withMarket(b, 2);
            for (int n = 1; n <= 50; n++) {
                int even = Math.min(n, 2 * b);
                int due = 1440 * even + 360 * even * even / b + 2880 * (n - even);
                due(n + " shares with liquidity " + b, x.cost(0, 0, n), due);
                due(n + " of the other", x.cost(0, 1, n), due);
            }
            due("asking changes nothing", x.shares(0, 0), 0);
        }
    }

    /** Worked by hand from the levels of the description. */
    private static void moreOutcomes() {
        PredictionMaker x = withMarket(10, 3);
        due("the level", x.market(0, 8), -9600);
        due("three of three outcomes", x.cost(0, 0, 3), 3312);
        x.buy(0, 0, 0, 19);
        due("with 19 shares, the others are still active", x.market(0, 10), 3);
        due("a share of another", x.cost(0, 2, 1), 96);
        x.buy(0, 0, 0, 11);
        due("with 30 shares, they are not", x.market(0, 10), 1);
        due("the dear outcome costs a coin", x.cost(0, 0, 2), 2 * COIN);
        due("a cheap one costs little", x.cost(0, 1, 11), 36);
        due("ten shares cost nothing", x.cost(0, 1, 10), 0);
        due("selling is the opposite", x.cost(0, 0, -30), -x.paid(0, 0));
        x.buy(1, 0, 1, 12);
        int back = x.cost(0, 1, -12);
        due("selling what another has bought", back, -x.paid(1, 0));

        PredictionMaker four = withMarket(1, 4);
        due("one of four outcomes", four.cost(0, 3, 1), 1260);
        due("two of four outcomes", four.cost(0, 3, 2), 3600);
        four.buySet(0, 0, 15, 7);
        due("even shares cost as none", four.cost(0, 3, 1), 1260);
        due("and bring as much back", four.cost(0, 3, -1), -240);
    }

    private static void edges() {
        PredictionMaker x = withMarket(60, 2);
        due("count 0", x.cost(0, 0, 0), BAD_ARGUMENT);
        due("count 51", x.cost(0, 0, 51), BAD_ARGUMENT);
        due("count -51", x.cost(0, 0, -51), BAD_ARGUMENT);
        due("market -1", x.cost(-1, 0, 1), NONE);
        due("market 1", x.cost(1, 0, 1), NONE);
        due("outcome -1", x.cost(0, -1, 1), NONE);
        due("outcome 2", x.cost(0, 2, 1), NONE);
        due("none before bad", x.cost(0, 2, 0), NONE);
        due("less than 0 shares", x.cost(0, 0, -1), FULL);
        for (int wild : WILD) {
            due("market " + wild, x.cost(wild, 0, 1), NONE);
            due("outcome " + wild, x.cost(0, wild, 1), NONE);
            due("count " + wild, x.cost(0, 0, wild), BAD_ARGUMENT);
        }
        fill(x, 0, 0, 0, 10);
        due("all ten sold", x.cost(0, 0, -10), -15000);
        due("eleven sold", x.cost(0, 0, -11), FULL);
        due("bad before full", x.cost(0, 0, -51), BAD_ARGUMENT);
        fill(x, 0, 0, 0, 351);
        due("401 shares", x.cost(0, 0, 50), FULL);
        due("400 shares", x.cost(0, 0, 49), 49 * COIN);
        fill(x, 0, 0, 0, 400);
        due("at 400 shares", x.cost(0, 0, 1), FULL);
        due("fifty back", x.cost(0, 0, -50), -50 * COIN);
    }

    private static void anyState() {
        PredictionMaker x = withMarket(60, 2);
        x.openMarket(60, 2, 200);
        x.buy(0, 0, 0, 10);
        x.buy(0, 1, 0, 10);
        int due = x.cost(0, 0, 1);
        due("open", due, 1566);
        x.tick(100);
        due("expired", x.cost(0, 0, 1), due);
        x.settle(0, 0);
        due("settled", x.cost(0, 0, 1), due);
        x.cancelMarket(1);
        due("void", x.cost(1, 0, 1), due);
    }
}
