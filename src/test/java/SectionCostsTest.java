/** "Costs." of the description, and what the particulars say of costs in any state. */
public final class SectionCostsTest extends Check {
    /**
     * The liquidity, the shares, and by the rule of the document, worked out with fractions apart
     * from the class: the number of active outcomes, the level, and the prices. For the edges of
     * the rule there is a row below it, at it and above it.
     */
    private static final int[][][] RULE = {
        {{1}, {1, 0}, {2}, {360}, {2160, 720}},
        {{1}, {17, 18}, {2}, {49320}, {720, 2160}},
        {{1}, {2, 0}, {1}, {2880}, {2880, 0}},
        {{1}, {17, 19}, {1}, {51840}, {0, 2880}},
        {{1}, {3, 0}, {1}, {5760}, {2880, 0}},
        {{1}, {17, 20}, {1}, {54720}, {0, 2880}},
        {{5}, {9, 0}, {2}, {11592}, {2736, 144}},
        {{5}, {17, 26}, {2}, {60552}, {144, 2736}},
        {{5}, {10, 0}, {1}, {14400}, {2880, 0}},
        {{5}, {17, 27}, {1}, {63360}, {0, 2880}},
        {{5}, {11, 0}, {1}, {17280}, {2880, 0}},
        {{5}, {17, 28}, {1}, {66240}, {0, 2880}},
        {{60}, {119, 0}, {2}, {169926}, {2868, 12}},
        {{60}, {17, 136}, {2}, {218886}, {12, 2868}},
        {{60}, {120, 0}, {1}, {172800}, {2880, 0}},
        {{60}, {17, 137}, {1}, {221760}, {0, 2880}},
        {{60}, {121, 0}, {1}, {175680}, {2880, 0}},
        {{60}, {17, 138}, {1}, {224640}, {0, 2880}},
        {{2}, {20, 20, 17}, {2}, {54720}, {1440, 1440, 0}},
        {{2}, {20, 20, 18}, {2}, {54720}, {1440, 1440, 0}},
        {{2}, {20, 20, 19}, {3}, {54960}, {1200, 1200, 480}},
        {{5}, {20, 20, 14}, {2}, {50400}, {1440, 1440, 0}},
        {{5}, {20, 20, 15}, {2}, {50400}, {1440, 1440, 0}},
        {{5}, {20, 20, 16}, {3}, {50496}, {1344, 1344, 192}},
        {{12}, {20, 20, 7}, {2}, {40320}, {1440, 1440, 0}},
        {{12}, {20, 20, 8}, {2}, {40320}, {1440, 1440, 0}},
        {{12}, {20, 20, 9}, {3}, {40360}, {1400, 1400, 80}},
        {{5}, {2, 10, 6}, {2}, {16992}, {0, 2016, 864}},
        {{5}, {3, 10, 6}, {2}, {16992}, {0, 2016, 864}},
        {{5}, {4, 10, 6}, {3}, {17088}, {192, 1920, 768}},
        {{5}, {10, 8, 7, 4}, {3}, {19872}, {1440, 864, 576, 0}},
        {{5}, {10, 8, 7, 5}, {3}, {19872}, {1440, 864, 576, 0}},
        {{5}, {10, 8, 7, 6}, {4}, {19980}, {1368, 792, 504, 216}},
        {{5}, {10, 4, 8, 6}, {3}, {19392}, {1536, 0, 960, 384}},
        {{5}, {10, 5, 8, 6}, {4}, {19404}, {1512, 72, 936, 360}},
        {{5}, {10, 6, 8, 6}, {4}, {19584}, {1440, 288, 864, 288}},
        {{3}, {8, 5, 8, 8}, {3}, {20160}, {960, 0, 960, 960}},
        {{3}, {8, 6, 8, 8}, {3}, {20160}, {960, 0, 960, 960}},
        {{3}, {8, 7, 8, 8}, {4}, {20340}, {840, 360, 840, 840}},
        {{6}, {11, 0, 0, 0}, {4}, {14490}, {2700, 60, 60, 60}},
        {{6}, {12, 0, 0, 0}, {1}, {17280}, {2880, 0, 0, 0}},
        {{6}, {13, 0, 0, 0}, {1}, {20160}, {2880, 0, 0, 0}},
        {{6}, {12, 1, 1, 1}, {4}, {17370}, {2700, 60, 60, 60}},
        {{3}, {3, 3, 0, 0}, {2}, {4320}, {1440, 1440, 0, 0}},
        {{3}, {4, 4, 1, 1}, {2}, {7200}, {1440, 1440, 0, 0}},
        {{3}, {4, 4, 2, 2}, {4}, {7440}, {1200, 1200, 240, 240}},
        {{4}, {3, 3, 0, 0}, {4}, {3060}, {1260, 1260, 180, 180}},
        {{1}, {0, 0}, {2}, {-1440}, {1440, 1440}},
        {{1}, {0, 0, 0, 0}, {4}, {-720}, {720, 720, 720, 720}},
        {{1}, {400, 400}, {2}, {1150560}, {1440, 1440}},
        {{1}, {400, 0, 0}, {1}, {1149120}, {2880, 0, 0}},
        {{1}, {400, 400, 400, 400}, {4}, {1151280}, {720, 720, 720, 720}},
        {{1}, {400, 400, 400, 399}, {3}, {1151040}, {960, 960, 960, 0}},
        {{1}, {399, 400, 400, 400}, {3}, {1151040}, {0, 960, 960, 960}},
        {{60}, {0, 0}, {2}, {-86400}, {1440, 1440}},
        {{60}, {0, 0, 0, 0}, {4}, {-43200}, {720, 720, 720, 720}},
        {{60}, {400, 400}, {2}, {1065600}, {1440, 1440}},
        {{60}, {400, 0, 0}, {1}, {979200}, {2880, 0, 0}},
        {{60}, {400, 400, 400, 400}, {4}, {1108800}, {720, 720, 720, 720}},
        {{60}, {400, 400, 400, 399}, {4}, {1108089}, {726, 726, 726, 702}},
        {{60}, {399, 400, 400, 400}, {4}, {1108089}, {702, 726, 726, 726}},
        {{60}, {400, 300, 281, 200}, {2}, {981600}, {2640, 240, 0, 0}},
        {{60}, {400, 281, 0, 300}, {2}, {981600}, {2640, 0, 0, 240}},
        {{60}, {341, 400, 300}, {2}, {1001526}, {732, 2148, 0}},
    };

    public static void main(String[] args) {
        rows();
        firstIsActive();
        greaterNotEqual();
        equalNumbers();
        whichOutcomeItIs();
        costIsLevelAfterMinusBefore();
        negativeCost();
        costOfZero();
        othersHaveThePriceZero();
        inAnyState();
        at400Shares();
        againstTheSharesOfAll();
        end();
    }

    private static PredictionMaker piled(int[][] row) {
        PredictionMaker x = withMarket(row[0][0], row[1].length);
        pile(x, 0, row[1]);
        return x;
    }

    private static String told(int[][] row) {
        StringBuilder out = new StringBuilder("b ").append(row[0][0]).append(", shares");
        for (int shares : row[1]) {
            out.append(' ').append(shares);
        }
        return out.toString();
    }

    private static void rows() {
        for (int[][] row : RULE) {
            PredictionMaker x = piled(row);
            due("active of " + told(row), x.market(0, 10), row[2][0]);
            due("level of " + told(row), x.market(0, 8), row[3][0]);
            int sum = 0;
            for (int outcome = 0; outcome < row[1].length; outcome++) {
                due("price " + outcome + " of " + told(row), x.price(0, outcome), row[4][outcome]);
                sum += x.price(0, outcome);
            }
            due("prices together of " + told(row), sum, COIN);
        }
    }

    /** "... the first one is active": with no shares, with one share, and with 400 against none. */
    private static void firstIsActive() {
        for (int shares : new int[] {0, 1, 2, 3, 399, 400}) {
            PredictionMaker x = withMarket(1, 4);
            pile(x, 0, 0, 0, shares, 0);
            isTrue("one is active with " + shares, x.market(0, 10) >= 1);
            due("four, or it alone", x.market(0, 10), shares < 2 ? 4 : 1);
            isTrue("it has a price", x.price(0, 2) > 0);
        }
    }

    /** "... are greater than their sum of shares minus 2 * b": by each number of outcomes before. */
    private static void greaterNotEqual() {
        for (int b : new int[] {1, 2, 3, 4, 5, 6, 10, 12, 15, 20, 30, 60}) {
            for (int before = 1; before <= 3; before++) {
                if (2 * b % before != 0) {
                    continue;
                }
                int edge = 2 * b / before;
                for (int off = -1; off <= 1; off++) {
                    if (edge + off < 0) {
                        continue;
                    }
                    int[] shares = new int[before + 1];
                    java.util.Arrays.fill(shares, 3 + edge + off);
                    shares[before] = 3;
                    PredictionMaker x = withMarket(b, Math.max(2, before + 1));
                    pile(x, 0, shares);
                    String told = before + " outcomes with " + (edge + off) + " shares more, b " + b;
                    due(told, x.market(0, 10), off < 0 ? before + 1 : before);
                    isTrue(told + ": the price", off < 0 == x.price(0, before) > 0);
                }
            }
        }
    }

    /** "... those with equal numbers in ascending order": equal ones are active together or not. */
    private static void equalNumbers() {
        int[][] shares = {{5, 5, 0, 0}, {0, 5, 5, 0}, {0, 0, 5, 5}, {5, 0, 0, 5}, {0, 5, 0, 5}};
        for (int[] each : shares) {
            PredictionMaker x = withMarket(5, 4);
            pile(x, 0, each);
            due("two against two, on the edge", x.market(0, 10), 2);
            PredictionMaker y = withMarket(6, 4);
            pile(y, 0, each);
            due("two against two, within", y.market(0, 10), 4);
            for (int outcome = 0; outcome < 4; outcome++) {
                due("the price", x.price(0, outcome), each[outcome] == 5 ? 1440 : 0);
                due("the price within", y.price(0, outcome), each[outcome] == 5 ? 1320 : 120);
            }
        }
    }

    /** It is the shares that matter, not which outcomes have them. */
    private static void whichOutcomeItIs() {
        int[] shares = {10, 8, 7, 6};
        int[] prices = {1368, 792, 504, 216};
        for (int code = 0; code < 256; code++) {
            int[] places = {code & 3, code >> 2 & 3, code >> 4 & 3, code >> 6};
            int met = 0;
            int[] each = new int[4];
            for (int i = 0; i < 4; i++) {
                met |= 1 << places[i];
                each[places[i]] = shares[i];
            }
            if (met == 15) {
                PredictionMaker x = withMarket(5, 4);
                pile(x, 0, each);
                due("the level", x.market(0, 8), 19980);
                for (int i = 0; i < 4; i++) {
                    due("the price of " + shares[i] + " shares", x.price(0, places[i]), prices[i]);
                }
            }
        }
    }

    /** "... the cost is the level afterwards minus the level before; the trader pays it to the market". */
    private static void costIsLevelAfterMinusBefore() {
        for (int[][] row : RULE) {
            for (int outcome = 0; outcome < row[1].length; outcome++) {
                for (int count : new int[] {1, 2, 49, 50}) {
                    if (row[1][outcome] + count > 400) {
                        continue;
                    }
                    PredictionMaker x = piled(row);
                    String told = count + " of " + outcome + ", " + told(row);
                    int told0 = x.cost(0, outcome, count);
                    int account = x.market(0, 6);
                    int cost = x.buy(5, 0, outcome, count);
                    due("told " + told, told0, cost);
                    due("levels " + told, x.market(0, 8) - row[3][0], cost);
                    due("paid by the trader " + told, x.trader(5, 0), 500 * COIN - cost);
                    due("paid to the market " + told, x.market(0, 6), account + cost);
                    due("and back " + told, x.cost(0, outcome, -count), -cost);
                    isTrue("never negative " + told, cost >= 0);
                }
            }
        }
    }

    /** "... and if it is negative, gets its opposite." */
    private static void negativeCost() {
        PredictionMaker x = withMarket(60, 2);
        x.buy(0, 0, 0, 3);
        due("what selling would cost", x.cost(0, 0, -1), -1470);
        due("the trader gets", x.sell(0, 0, 0, 1), 1470);
        due("the trader has", x.trader(0, 0), 500 * COIN - 4374 + 1470);
        due("the market has", x.market(0, 6), 4374 - 1470);
        due("the trade has the cost", x.history(0, 4), -1470);
    }

    /** A cost of 0 is neither paid nor got. */
    private static void costOfZero() {
        PredictionMaker x = withMarket(1, 2);
        pile(x, 0, 9, 0);
        setBalance(x, 1, 0);
        int account = x.market(0, 6);
        due("told", x.cost(0, 1, 7), 0);
        due("a unit's worth is more", x.cost(0, 1, 8), 360);
        due("bought", x.buy(1, 0, 1, 7), 0);
        due("held", x.holding(1, 0, 1), 7);
        due("told back", x.cost(0, 1, -7), 0);
        due("sold", x.sell(1, 0, 1, 7), 0);
        due("the balance", x.trader(1, 0), 0);
        due("the account", x.market(0, 6), account);
        due("two trades all the same", x.history(0, 3) * 100 + x.history(1, 3), -700 + 7);
    }

    /** "The price of an active outcome ... that of others is 0." */
    private static void othersHaveThePriceZero() {
        PredictionMaker x = withMarket(60, 2);
        pile(x, 0, 119, 0);
        due("just active", x.price(0, 1), 12);
        x.buy(0, 0, 0, 1);
        due("on the edge", x.price(0, 1), 0);
        x.buy(0, 0, 0, 1);
        due("beyond the edge, not below 0", x.price(0, 1), 0);
        x.buy(0, 0, 0, 50);
        due("far beyond", x.price(0, 1), 0);
        due("the other has a coin", x.price(0, 0), COIN);
    }

    /** "Costs, levels, prices, active outcomes and affordable numbers are told in any state". */
    private static void inAnyState() {
        PredictionMaker x = withMarket(60, 3);
        x.openMarket(60, 3, 200);
        for (int market = 0; market < 2; market++) {
            x.buy(0, market, 0, 50);
            x.buy(1, market, 1, 30);
        }
        setBalance(x, 2, 10000);
        int[] open = told(x, 0);
        compare("another market of that kind", told(x, 1), open);
        x.tick(100);
        compare("expired", told(x, 0), open);
        x.settle(0, 1);
        setBalance(x, 2, 10000);
        compare("settled", told(x, 0), open);
        x.cancelMarket(1);
        compare("void", told(x, 1), open);
    }

    private static int[] told(PredictionMaker x, int market) {
        int[] all = new int[17];
        int next = 0;
        for (int outcome = 0; outcome < 3; outcome++) {
            all[next++] = x.cost(market, outcome, 50);
            all[next++] = x.cost(market, outcome, -30);
            all[next++] = x.price(market, outcome);
            all[next++] = x.affordable(2, market, outcome);
            all[next++] = x.sharesFor(market, outcome, 2000);
        }
        all[next++] = x.market(market, 8);
        all[next] = x.market(market, 10);
        isTrue("some of each", all[0] > 0 && all[2] > 0 && all[3] > 0 && all[4] > 0);
        return all;
    }

    private static void compare(String what, int[] got, int[] due) {
        for (int i = 0; i < due.length; i++) {
            due(what + ", " + i, got[i], due[i]);
        }
    }

    /** "... by its shares as they are, up to 400": 399 and 400, but never of 401. */
    private static void at400Shares() {
        PredictionMaker x = withMarket(60, 2);
        pile(x, 0, 399, 400);
        due("the 400th", x.cost(0, 0, 1), 1434);
        due("the 401st", x.cost(0, 0, 2), FULL);
        due("one can be afforded", x.affordable(2, 0, 0), 1);
        due("none of 400", x.affordable(2, 0, 1), 0);
        due("none of 400 has a cost", x.cost(0, 1, 1), FULL);
        due("back from 400", x.cost(0, 1, -1), -1446);
        due("the level of 399 and 400", x.market(0, 8), 1064166);
        x.buy(2, 0, 0, 1);
        due("the level of 400 and 400", x.market(0, 8), 1065600);
        due("the price of 400", x.price(0, 0), 1440);
    }

    /** "... selling is told against the shares of all together", to none left, and not below. */
    private static void againstTheSharesOfAll() {
        PredictionMaker x = withMarket(60, 2);
        x.buy(0, 0, 0, 4);
        x.buy(1, 0, 0, 6);
        due("nine of ten", x.cost(0, 0, -9), -13554);
        due("all ten, of two traders", x.cost(0, 0, -10), -15000);
        due("eleven", x.cost(0, 0, -11), FULL);
        due("though nobody holds ten", x.sell(1, 0, 0, 7), NOT_ENOUGH);
        due("none of the other outcome", x.cost(0, 1, -1), FULL);
    }
}
