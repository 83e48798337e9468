/** Promise 27: count. */
public final class Promise27CountTest extends Check {
    public static void main(String[] args) {
        PredictionMaker x = withMarket(60, 2);
        x.openMarket(60, 2, 50);
        x.openMarket(60, 2, 200);
        x.openMarket(60, 2, 200);
        int first = x.buy(0, 0, 0, 5);
        int second = x.buy(1, 1, 0, 5);
        int third = x.buySet(2, 2, 3, 2);
        x.place(3, 0, 0, 1, 1);
        x.place(3, 2, 0, 1, 1);
        x.append('a', 7);
        x.tick(3);
        int paid = first + second + third;
        counts(x, new int[] {4, 4, 2, 3, 4, 7, 6 * 500 * COIN - paid, paid});
        x.cancelMarket(2);
        paid -= third;
        counts(x, new int[] {4, 3, 1, 3, 4, 7, 6 * 500 * COIN - paid, paid});
        x.tick(47);
        counts(x, new int[] {4, 2, 1, 50, 4, 7, 6 * 500 * COIN - paid, paid});
        x.settle(1, 0);
        paid -= 5 * COIN;
        counts(x, new int[] {4, 2, 1, 50, 4, 7, 6 * 500 * COIN - paid, paid});
        x.trade();
        due("the text is empty", x.count(5), 0);
        due("what 8", x.count(8), BAD_ARGUMENT);
        due("what -1", x.count(-1), BAD_ARGUMENT);
        for (int wild : WILD) {
            due("what " + wild, x.count(wild), BAD_ARGUMENT);
        }
        end();
    }

    private static void counts(PredictionMaker x, int[] counts) {
        for (int what = 0; what < 8; what++) {
            due("count " + what, x.count(what), counts[what]);
        }
    }
}
