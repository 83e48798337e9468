/** Promise 2: openMarket. */
public final class Promise02OpenMarketTest extends Check {
    public static void main(String[] args) {
        opened();
        liquidities();
        edges();
        full();
        end();
    }

    private static void opened() {
        PredictionMaker x = new PredictionMaker();
        due("the first market", x.openMarket(12, 3, 7), 0);
        int[] properties = {0, 12, 3, 7, -1, -1, 0, 2880 * 12 * 2 / 3, -9600 * 12 / 10, -1, 3, 0};
        for (int what = 0; what < properties.length; what++) {
            due("property " + what, x.market(0, what), properties[what]);
        }
        for (int outcome = 0; outcome < 3; outcome++) {
            due("no shares yet", x.shares(0, outcome), 0);
            due("even prices", x.price(0, outcome), 960);
        }
        due("no fourth outcome", x.shares(0, 3), NONE);
        due("the second market", x.openMarket(60, 4, 999), 1);
        due("markets", x.count(0), 2);
        due("open markets", x.count(1), 2);
    }

    private static void liquidities() {
        for (int liquidity = -61; liquidity <= 121; liquidity++) {
            PredictionMaker x = new PredictionMaker();
            boolean divides = liquidity > 0 && 60 % liquidity == 0;
            due("liquidity " + liquidity, x.openMarket(liquidity, 2, 5), divides ? 0 : BAD_ARGUMENT);
            due("markets", x.count(0), divides ? 1 : 0);
        }
    }

    private static void edges() {
        PredictionMaker x = new PredictionMaker();
        String before = stateOf(x);
        refused("one outcome", x, before, x.openMarket(1, 1, 5), BAD_ARGUMENT);
        refused("five outcomes", x, before, x.openMarket(1, 5, 5), BAD_ARGUMENT);
        refused("expiry now", x, before, x.openMarket(1, 2, 0), BAD_ARGUMENT);
        refused("expiry before now", x, before, x.openMarket(1, 2, -1), BAD_ARGUMENT);
        refused("expiry 1000", x, before, x.openMarket(1, 2, 1000), BAD_ARGUMENT);
        for (int wild : WILD) {
            refused("liquidity " + wild, x, before, x.openMarket(wild, 2, 5), BAD_ARGUMENT);
            refused("outcomes " + wild, x, before, x.openMarket(1, wild, 5), BAD_ARGUMENT);
            refused("expiry " + wild, x, before, x.openMarket(1, 2, wild), BAD_ARGUMENT);
        }
        due("expiry at the next tick", x.openMarket(1, 2, 1), 0);
        due("the latest expiry", x.openMarket(1, 4, 999), 1);
        x.tick(50);
        due("expiry at the time", x.openMarket(1, 2, 50), BAD_ARGUMENT);
        due("expiry after the time", x.openMarket(1, 2, 51), 2);
        for (int i = 0; i < 10; i++) {
            x.tick(100);
        }
        due("too late for any expiry", x.openMarket(1, 2, 999), BAD_ARGUMENT);
    }

    private static void full() {
        PredictionMaker x = new PredictionMaker();
        for (int i = 0; i < 6; i++) {
            due("market " + i, x.openMarket(5, 2, 9), i);
        }
        String before = stateOf(x);
        refused("a seventh", x, before, x.openMarket(5, 2, 9), FULL);
        refused("a bad seventh", x, before, x.openMarket(7, 2, 9), BAD_ARGUMENT);
        x.cancelMarket(0);
        due("void markets count, too", x.openMarket(5, 2, 9), FULL);
    }
}
