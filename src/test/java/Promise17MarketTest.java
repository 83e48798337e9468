/** Promise 17: market. */
public final class Promise17MarketTest extends Check {
    public static void main(String[] args) {
        properties();
        bounds();
        active();
        wrong();
        end();
    }

    private static void properties() {
        PredictionMaker x = withMarket(60, 3);
        x.openLinked(10, 2, 50, 0, 2);
        x.buy(0, 1, 0, 3);
        int[] open = {0, 10, 2, 50, 0, 2, 4644, 14400, -9756, -1, 2, 3 * COIN - 4644};
        for (int what = 0; what < 12; what++) {
            due("open, " + what, x.market(1, what), open[what]);
        }
        x.tick(50);
        due("expired", x.market(1, 0), 1);
        x.tick(50);
        x.cancelMarket(1);
        int[] ended = {3, 10, 2, 50, 0, 2, 0, 14400, -9756, -1, 2, 3 * COIN};
        for (int what = 0; what < 12; what++) {
            due("void, " + what, x.market(1, what), ended[what]);
        }
        x.settle(0, 2);
        int[] settled = {2, 60, 3, 100, -1, -1, 0, 115200, -57600, 2, 3, 0};
        for (int what = 0; what < 12; what++) {
            due("settled, " + what, x.market(0, what), settled[what]);
        }
        afterSettling();
    }

    private static void afterSettling() {
        PredictionMaker x = withMarket(10, 2);
        x.buy(0, 0, 0, 3);
        x.buy(1, 0, 1, 2);
        int account = 4644 + x.paid(1, 0);
        due("the account", x.market(0, 6), account);
        due("the greatest loss by outcome 0", x.market(0, 11), 3 * COIN - account);
        x.tick(100);
        x.settle(0, 1);
        due("the account behind settling", x.market(0, 6), account - 2 * COIN);
        due("the loss goes on by it", x.market(0, 11), 5 * COIN - account);
    }

    private static void bounds() {
        for (int b : new int[] {1, 2, 3, 4, 5, 6, 10, 12, 15, 20, 30, 60}) {
            for (int n = 2; n <= 4; n++) {
                PredictionMaker x = withMarket(b, n);
                due("the loss bound", x.market(0, 7), new int[] {1440, 1920, 2160}[n - 2] * b);
                due("the level", x.market(0, 8), -new int[] {1440, 960, 720}[n - 2] * b);
                x.buySet(0, 0, 1, 50);
                due("near the bound", x.market(0, 11) <= x.market(0, 7) ? 1 : 0, 1);
                if (2 * b <= 50) {
                    due("at the bound", x.market(0, 11), x.market(0, 7));
                }
            }
        }
    }

    private static void active() {
        PredictionMaker x = withMarket(5, 4);
        due("all are active", x.market(0, 10), 4);
        x.buySet(0, 0, 3, 4);
        due("8 is less than 10", x.market(0, 10), 4);
        x.buySet(0, 0, 3, 1);
        due("10 is not", x.market(0, 10), 2);
        x.buy(0, 0, 2, 1);
        due("the third is again", x.market(0, 10), 3);
        x.buy(0, 0, 0, 9);
        due("14 shares against 5 and 1", x.market(0, 10), 2);
        due("the level of two", x.market(0, 8), 60 / 5 * (12 * (196 + 25) - 6 * 9 * 9));
        x.buy(0, 0, 0, 1);
        due("15 shares against 5", x.market(0, 10), 1);
        due("the level of one", x.market(0, 8), 60 / 5 * (12 * 225 - 12 * 5 * 5));
        due("market's outcomes stay", x.market(0, 2), 4);
    }

    private static void wrong() {
        PredictionMaker x = withMarket(5, 4);
        due("what -1", x.market(0, -1), BAD_ARGUMENT);
        due("what 12", x.market(0, 12), BAD_ARGUMENT);
        due("market 1", x.market(1, 0), NONE);
        due("market -1", x.market(-1, 0), NONE);
        due("market 6", x.market(6, 0), NONE);
        due("none before bad", x.market(1, 12), NONE);
        for (int wild : WILD) {
            due("market " + wild, x.market(wild, 0), NONE);
            due("what " + wild, x.market(0, wild), BAD_ARGUMENT);
        }
    }
}
