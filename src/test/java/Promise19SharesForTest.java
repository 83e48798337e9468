/** Promise 19: sharesFor. */
public final class Promise19SharesForTest extends Check {
    public static void main(String[] args) {
        PredictionMaker x = withMarket(60, 2);
        due("as high already", x.sharesFor(0, 0, 1440), 0);
        due("lower", x.sharesFor(0, 0, 1), 0);
        due("a unit more", x.sharesFor(0, 0, 1441), 1);
        due("1452", x.sharesFor(0, 0, 1452), 1);
        due("1453", x.sharesFor(0, 0, 1453), 2);
        due("a coin", x.sharesFor(0, 1, 2880), 120);
        due("a unit less", x.sharesFor(0, 1, 2879), 120);
        due("asking changes nothing", x.shares(0, 1), 0);
        fill(x, 0, 0, 0, 300);
        due("the other is not active", x.price(0, 1), 0);
        due("until 181 shares", x.sharesFor(0, 1, 1), 181);
        due("at 400", x.sharesFor(0, 1, 2640), 400);
        due("above that", x.sharesFor(0, 1, 2641), FULL);
        due("the most", x.sharesFor(0, 1, 2880), FULL);
        due("dear already", x.sharesFor(0, 0, 2880), 0);
        fill(x, 0, 0, 0, 400);
        due("at 400 shares, high already", x.sharesFor(0, 0, 2880), 0);
        fill(x, 0, 0, 1, 400);
        due("at 400 shares, too low", x.sharesFor(0, 0, 1441), FULL);
        due("at 400 shares, just high enough", x.sharesFor(0, 0, 1440), 0);
        wrong();
        states();
        everyPrice();
        end();
    }

    /** With n shares more the price is 1440 + 12 * n: just that price needs n, a unit more n + 1. */
    private static void everyPrice() {
        PredictionMaker x = withMarket(60, 2);
        for (int number = 0; number <= 120; number++) {
            int price = 1440 + 12 * number;
            due(price + " units", x.sharesFor(0, 1, price), number);
            if (number < 120) {
                due("a unit more than " + price, x.sharesFor(0, 1, price + 1), number + 1);
            }
        }
        for (int bought = 0; bought <= 120; bought += 10) {
            PredictionMaker y = withMarket(60, 2);
            pile(y, 0, bought, 0);
            int price = 1440 + 12 * bought;
            due("the price of " + bought, y.price(0, 0), price);
            due("as high already", y.sharesFor(0, 0, price), 0);
            due("a unit less", y.sharesFor(0, 0, price - 1), 0);
            if (bought < 120) {
                due("a unit more", y.sharesFor(0, 0, price + 1), 1);
            }
        }
    }

    private static void wrong() {
        PredictionMaker x = withMarket(60, 2);
        due("units 0", x.sharesFor(0, 0, 0), BAD_ARGUMENT);
        due("units -1", x.sharesFor(0, 0, -1), BAD_ARGUMENT);
        due("units 2881", x.sharesFor(0, 0, 2881), BAD_ARGUMENT);
        due("market 1", x.sharesFor(1, 0, 1), NONE);
        due("market -1", x.sharesFor(-1, 0, 1), NONE);
        due("outcome 2", x.sharesFor(0, 2, 1), NONE);
        due("outcome -1", x.sharesFor(0, -1, 1), NONE);
        due("none before bad", x.sharesFor(0, 2, 0), NONE);
        for (int wild : WILD) {
            due("market " + wild, x.sharesFor(wild, 0, 1), NONE);
            due("outcome " + wild, x.sharesFor(0, wild, 1), NONE);
            due("units " + wild, x.sharesFor(0, 0, wild), BAD_ARGUMENT);
        }
        fill(x, 0, 0, 0, 400);
        due("bad before full", x.sharesFor(0, 1, 2881), BAD_ARGUMENT);
    }

    private static void states() {
        PredictionMaker x = withMarket(60, 2);
        x.cancelMarket(0);
        due("void", x.sharesFor(0, 0, 1453), 2);
    }
}
