/** Promise 13: waiting. */
public final class Promise13WaitingTest extends Check {
    public static void main(String[] args) {
        PredictionMaker x = withMarket(60, 2);
        x.openMarket(60, 2, 50);
        x.openMarket(60, 2, 50);
        int[] limits = {10, 30, 20, 30, 5, 30, 10};
        for (int i = 0; i < limits.length; i++) {
            x.place(5 - i % 6, 0, i % 2, 1 + i, limits[i]);
            x.place(i % 6, 1, 0, 1, limits[i]);
        }
        int[] tried = {1, 3, 5, 2, 0, 6, 4};
        for (int i = 0; i < tried.length; i++) {
            due("position " + i, x.waiting(0, i), 2 * tried[i]);
            due("position " + i + " of the other", x.waiting(1, i), 2 * tried[i] + 1);
        }
        due("position 7", x.waiting(0, 7), NONE);
        due("position -1", x.waiting(0, -1), NONE);
        due("a market without orders", x.waiting(2, 0), NONE);
        due("market 3", x.waiting(3, 0), NONE);
        due("market -1", x.waiting(-1, 0), NONE);
        for (int wild : WILD) {
            due("market " + wild, x.waiting(wild, 0), NONE);
            due("position " + wild, x.waiting(0, wild), NONE);
        }
        x.cancel(6);
        due("without order 6 the next moves up", x.waiting(0, 1), 10);
        x.place(0, 0, 0, 1, 30);
        due("a new one with the same limit goes behind", x.waiting(0, 2), 14);
        x.tick(50);
        due("an expired market has none", x.waiting(1, 0), NONE);
        due("an open one has", x.waiting(0, 0), 2);
        end();
    }
}
