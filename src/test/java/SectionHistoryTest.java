/** "History." of the description, and what the particulars say of trades. */
public final class SectionHistoryTest extends Check {
    public static void main(String[] args) {
        latestThirty();
        thirtyOneAtOnce();
        oneByOneCall();
        eachShareForAnOrder();
        eachOutcomeOfASet();
        nothingElse();
        countedWhenNoLongerKept();
        costsOfASet();
        end();
    }

    /** "The latest 30 trades are kept": with 29, 30 and 31 of them, and many more. */
    private static void latestThirty() {
        PredictionMaker x = withMarket(60, 2);
        for (int trades = 0; trades <= 95; trades++) {
            if (trades > 0) {
                x.buy(trades % 6, 0, trades / 6 % 2, 1 + trades % 5);
            }
            for (int index = -1; index <= 31; index++) {
                boolean kept = index >= 0 && index < 30 && index < trades;
                int told = trades - index;
                String what = "of " + trades + " trades, index " + index;
                due("trader " + what, x.history(index, 0), kept ? told % 6 : NONE);
                due("outcome " + what, x.history(index, 2), kept ? told / 6 % 2 : NONE);
                due("number " + what, x.history(index, 3), kept ? 1 + told % 5 : NONE);
            }
            due("all", x.count(4), trades);
        }
    }

    /** More trades than are kept by one call. */
    private static void thirtyOneAtOnce() {
        for (int shares : new int[] {29, 30, 31, 50}) {
            PredictionMaker x = withMarket(60, 2);
            x.place(3, 0, 0, shares, 2880);
            due("trades", x.count(4), shares);
            due("the latest", x.history(0, 4), 1434 + 12 * shares);
            int last = Math.min(30, shares) - 1;
            due("the last kept", x.history(last, 4), 1434 + 12 * (shares - last));
            due("no more", x.history(last + 1, 4), NONE);
        }
    }

    /** "... the buying or selling of shares by one call" is a trade, however many they are. */
    private static void oneByOneCall() {
        for (int count : new int[] {1, 2, 49, 50}) {
            PredictionMaker x = withMarket(60, 2);
            int cost = x.buy(4, 0, 1, count);
            int got = x.sell(4, 0, 1, count);
            due("two trades", x.count(4), 2);
            int[] bought = {4, 0, 1, count, cost, -1};
            int[] sold = {4, 0, 1, -count, -got, -1};
            for (int what = 0; what < 6; what++) {
                due("bought " + what, x.history(1, what), bought[what]);
                due("sold " + what, x.history(0, what), sold[what]);
            }
        }
        PredictionMaker x = withMarket(60, 2);
        trade(x, "2+50m0.1;2-7m0.1");
        due("each trade of a text", x.count(4), 2);
        due("its number", x.history(1, 3), 50);
        due("the number sold", x.history(0, 3), -7);
        due("by no order", x.history(0, 5), -1);
    }

    /** "... and each share bought for an order": with its number, 0 and above. */
    private static void eachShareForAnOrder() {
        PredictionMaker x = withMarket(60, 2);
        x.place(1, 0, 0, 2, 2880);
        x.place(2, 0, 1, 3, 2880);
        due("five", x.count(4), 5);
        for (int index = 0; index < 5; index++) {
            due("a share", x.history(index, 3), 1);
            due("its order", x.history(index, 5), index < 3 ? 1 : 0);
            due("its trader", x.history(index, 0), index < 3 ? 2 : 1);
            due("its outcome", x.history(index, 2), index < 3 ? 1 : 0);
        }
    }

    /** "Each outcome of buySet ... is a trade": in ascending order, of one, two, three and four. */
    private static void eachOutcomeOfASet() {
        for (int set = 1; set < 16; set++) {
            PredictionMaker x = withMarket(60, 4);
            x.buySet(1, 0, set, 3);
            due("trades of set " + set, x.count(4), Integer.bitCount(set));
            int index = 0;
            for (int outcome = 3; outcome >= 0; outcome--) {
                if ((set >> outcome & 1) == 1) {
                    due("outcome of set " + set, x.history(index, 2), outcome);
                    due("number of set " + set, x.history(index, 3), 3);
                    due("order of set " + set, x.history(index, 5), -1);
                    index++;
                }
            }
            due("no more of set " + set, x.history(index, 2), NONE);
        }
    }

    /** Neither settling nor paying back nor anything refused is a trade. */
    private static void nothingElse() {
        PredictionMaker x = withMarket(60, 2);
        x.openMarket(60, 2, 100);
        x.buy(0, 0, 0, 1);
        x.buy(0, 1, 0, 1);
        x.buy(0, 0, 0, 51);
        x.buySet(0, 0, 4, 1);
        x.sell(0, 0, 0, 2);
        x.place(0, 0, 0, 1, 1);
        x.cancel(0);
        x.withdraw(0, 1);
        x.tick(100);
        x.settle(0, 0);
        x.cancelMarket(1);
        due("two", x.count(4), 2);
        due("the latest", x.history(0, 1), 1);
        due("the one before", x.history(1, 1), 0);
        due("no other", x.history(2, 1), NONE);
    }

    /** "... counted also when it is no longer kept." */
    private static void countedWhenNoLongerKept() {
        PredictionMaker x = withMarket(60, 4);
        for (int i = 0; i < 5; i++) {
            x.buySet(i, 0, 15, 1);
            x.place(i, 0, i % 4, 8, 2880);
        }
        due("sixty", x.count(4), 60);
        due("thirty are kept", x.history(29, 3), 1);
        due("no more", x.history(30, 3), NONE);
        x.sell(0, 0, 0, 1);
        due("sixty-one", x.count(4), 61);
        due("still thirty", x.history(30, 3), NONE);
    }

    /** "... whose costs are those of buying them one after the other." */
    private static void costsOfASet() {
        for (int set = 1; set < 16; set++) {
            PredictionMaker x = withMarket(12, 4);
            PredictionMaker y = withMarket(12, 4);
            pile(x, 0, 9, 3, 0, 20);
            pile(y, 0, 9, 3, 0, 20);
            int cost = x.buySet(5, 0, set, 7);
            int sum = 0;
            for (int outcome = 0; outcome < 4; outcome++) {
                if ((set >> outcome & 1) == 1) {
                    sum += y.buy(5, 0, outcome, 7);
                }
            }
            due("set " + set, cost, sum);
            for (int index = 0; index < Integer.bitCount(set); index++) {
                due("trade " + index + " of set " + set, x.history(index, 4), y.history(index, 4));
            }
        }
    }
}
