/** Promise 3: openLinked. */
public final class Promise03OpenLinkedTest extends Check {
    public static void main(String[] args) {
        PredictionMaker x = new PredictionMaker();
        due("no market to link to", x.openLinked(1, 2, 5, 0, 0), NONE);
        x.openMarket(60, 3, 20);
        due("linked", x.openLinked(12, 2, 6, 0, 2), 1);
        due("its condition's market", x.market(1, 4), 0);
        due("its condition's outcome", x.market(1, 5), 2);
        due("its liquidity", x.market(1, 1), 12);
        due("its outcomes", x.market(1, 2), 2);
        due("its expiry", x.market(1, 3), 6);
        due("its state", x.market(1, 0), 0);
        wrong(x);
        states();
        full();
        end();
    }

    private static void wrong(PredictionMaker x) {
        String before = stateOf(x);
        refused("liquidity 7", x, before, x.openLinked(7, 2, 9, 0, 0), BAD_ARGUMENT);
        refused("liquidity 0", x, before, x.openLinked(0, 2, 9, 0, 0), BAD_ARGUMENT);
        refused("liquidity -1", x, before, x.openLinked(-1, 2, 9, 0, 0), BAD_ARGUMENT);
        refused("outcomes 1", x, before, x.openLinked(1, 1, 9, 0, 0), BAD_ARGUMENT);
        refused("outcomes 5", x, before, x.openLinked(1, 5, 9, 0, 0), BAD_ARGUMENT);
        refused("expiry 0", x, before, x.openLinked(1, 2, 0, 0, 0), BAD_ARGUMENT);
        refused("expiry 1000", x, before, x.openLinked(1, 2, 1000, 0, 0), BAD_ARGUMENT);
        refused("market -1", x, before, x.openLinked(1, 2, 9, -1, 0), NONE);
        refused("market 2", x, before, x.openLinked(1, 2, 9, 2, 0), NONE);
        refused("outcome -1", x, before, x.openLinked(1, 2, 9, 0, -1), NONE);
        refused("outcome 3", x, before, x.openLinked(1, 2, 9, 0, 3), NONE);
        refused("outcome 2 of two", x, before, x.openLinked(1, 2, 9, 1, 2), NONE);
        refused("bad and none", x, before, x.openLinked(7, 2, 9, 9, 9), BAD_ARGUMENT);
        for (int wild : WILD) {
            refused("liquidity " + wild, x, before, x.openLinked(wild, 2, 9, 0, 0), BAD_ARGUMENT);
            refused("outcomes " + wild, x, before, x.openLinked(1, wild, 9, 0, 0), BAD_ARGUMENT);
            refused("expiry " + wild, x, before, x.openLinked(1, 2, wild, 0, 0), BAD_ARGUMENT);
            refused("market " + wild, x, before, x.openLinked(1, 2, 9, wild, 0), NONE);
            refused("outcome " + wild, x, before, x.openLinked(1, 2, 9, 0, wild), NONE);
        }
    }

    private static void states() {
        PredictionMaker x = new PredictionMaker();
        x.openMarket(1, 2, 3);
        x.openMarket(1, 2, 90);
        x.cancelMarket(1);
        due("to a void market", x.openLinked(1, 2, 9, 1, 0), STATE);
        due("to an outcome that a void market has not", x.openLinked(1, 2, 9, 1, 2), NONE);
        x.tick(3);
        due("to an expired market", x.openLinked(1, 2, 9, 0, 1), 2);
        x.settle(0, 1);
        due("to a settled market", x.openLinked(1, 2, 9, 0, 1), STATE);
        due("to a market with a condition", x.openLinked(1, 2, 9, 2, 1), 3);
        due("the higher link", x.market(3, 4), 2);
    }

    private static void full() {
        PredictionMaker x = new PredictionMaker();
        x.openMarket(1, 2, 3);
        for (int i = 1; i < 6; i++) {
            due("market " + i, x.openLinked(1, 2, 9, i - 1, 1), i);
        }
        String before = stateOf(x);
        refused("a seventh", x, before, x.openLinked(1, 2, 9, 0, 0), FULL);
        refused("none before full", x, before, x.openLinked(1, 2, 9, 0, 2), NONE);
        refused("bad before full", x, before, x.openLinked(1, 2, 0, 0, 0), BAD_ARGUMENT);
        x.cancelMarket(5);
        due("state before full", x.openLinked(1, 2, 9, 5, 0), STATE);
    }
}
