/** Promise 20: voidReason. */
public final class Promise20VoidReasonTest extends Check {
    public static void main(String[] args) {
        chain();
        settledOtherwise();
        none();
        end();
    }

    private static void chain() {
        PredictionMaker x = new PredictionMaker();
        x.openMarket(60, 2, 100);
        for (int i = 1; i < 6; i++) {
            x.openLinked(60, 2, 100, i - 1, 0);
        }
        x.cancelMarket(5);
        x.cancelMarket(0);
        for (int market = 0; market < 5; market++) {
            for (int level = 0; level < 8; level++) {
                int due = level < market ? 3 : level == market ? 1 : NONE;
                due("market " + market + ", level " + level, x.voidReason(market, level), due);
            }
        }
        due("cancelled before", x.voidReason(5, 0), 1);
        due("needs no more", x.voidReason(5, 1), NONE);
    }

    private static void settledOtherwise() {
        PredictionMaker x = new PredictionMaker();
        x.openMarket(60, 2, 5);
        x.openLinked(60, 2, 100, 0, 0);
        x.openLinked(60, 2, 100, 1, 1);
        x.openMarket(60, 2, 5);
        x.openLinked(60, 2, 100, 3, 1);
        x.tick(5);
        x.settle(0, 1);
        x.tick(10);
        due("settled is not void", x.voidReason(0, 0), NONE);
        due("another outcome", x.voidReason(1, 0), 4);
        due("is explained", x.voidReason(1, 1), NONE);
        due("the market of the condition", x.voidReason(2, 0), 3);
        due("had another outcome", x.voidReason(2, 1), 4);
        due("is explained, too", x.voidReason(2, 2), NONE);
        due("not settled in time", x.voidReason(3, 0), 2);
        due("has no second level", x.voidReason(3, 1), NONE);
        due("by one not settled", x.voidReason(4, 0), 3);
        due("in time", x.voidReason(4, 1), 2);
        due("no third level", x.voidReason(4, 2), NONE);
    }

    private static void none() {
        PredictionMaker x = new PredictionMaker();
        x.openMarket(60, 2, 5);
        x.openMarket(60, 2, 100);
        due("open", x.voidReason(0, 0), NONE);
        x.tick(5);
        due("expired", x.voidReason(0, 0), NONE);
        x.cancelMarket(0);
        due("level -1", x.voidReason(0, -1), NONE);
        due("level 1", x.voidReason(0, 1), NONE);
        due("market -1", x.voidReason(-1, 0), NONE);
        due("market 2", x.voidReason(2, 0), NONE);
        for (int wild : WILD) {
            due("market " + wild, x.voidReason(wild, 0), NONE);
            due("level " + wild, x.voidReason(0, wild), NONE);
        }
    }
}
