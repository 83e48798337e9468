/** Promise 26: history. */
public final class Promise26HistoryTest extends Check {
    public static void main(String[] args) {
        PredictionMaker x = withMarket(60, 2);
        x.openMarket(60, 2, 100);
        due("no trade", x.history(0, 0), NONE);
        due("none before bad", x.history(0, 6), NONE);
        x.buy(4, 1, 1, 3);
        x.sell(4, 1, 1, 2);
        x.place(3, 1, 0, 1, 2880);
        int[][] parts = {
            {3, 1, 0, 1, 1434, 0}, {4, 1, 1, -2, 1446 - 4374, -1}, {4, 1, 1, 3, 4374, -1}
        };
        for (int index = 0; index < 3; index++) {
            for (int what = 0; what < 6; what++) {
                due("trade " + index + ", " + what, x.history(index, what), parts[index][what]);
            }
        }
        due("index 3", x.history(3, 0), NONE);
        due("index -1", x.history(-1, 0), NONE);
        due("what 6", x.history(0, 6), BAD_ARGUMENT);
        due("what -1", x.history(0, -1), BAD_ARGUMENT);
        for (int wild : WILD) {
            due("index " + wild, x.history(wild, 0), NONE);
            due("what " + wild, x.history(0, wild), BAD_ARGUMENT);
        }
        x.buy(0, 0, 5, 1);
        x.sell(0, 0, 0, 1);
        due("refused calls are no trades", x.history(0, 0), 3);
        latestThirty();
        byOrders();
        end();
    }

    private static void latestThirty() {
        PredictionMaker x = withMarket(60, 2);
        for (int i = 1; i <= 75; i++) {
            x.buy(i % 6, 0, i % 2, 1 + i % 7);
            int kept = Math.min(i, 30);
            for (int index : new int[] {0, 1, 15, 28, 29}) {
                int due = index < kept ? 1 + (i - index) % 7 : NONE;
                due("after " + i + ", index " + index, x.history(index, 3), due);
            }
            due("never index 30", x.history(30, 0), NONE);
        }
        due("all trades", x.count(4), 75);
    }

    private static void byOrders() {
        PredictionMaker x = withMarket(60, 2);
        x.place(0, 0, 0, 40, 2880);
        due("each share is a trade", x.count(4), 40);
        for (int index = 0; index < 30; index++) {
            due("its order", x.history(index, 5), 0);
            due("its cost", x.history(index, 4), 1446 + 12 * (39 - index));
        }
        due("thirty are kept", x.history(30, 5), NONE);
        x.settle(0, 0);
        x.tick(100);
        x.settle(0, 0);
        due("settling is no trade", x.count(4), 40);
    }
}
