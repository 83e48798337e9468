/** "Text." of the description, and what the particulars say of texts. */
public final class SectionTextTest extends Check {
    public static void main(String[] args) {
        atMostSixtyCharacters();
        lists();
        traders();
        signs();
        numbers();
        markets();
        outcomes();
        separators();
        endsTooEarly();
        firstThatCannotContinue();
        countsFrom51To99();
        asByBuyAndSell();
        end();
    }

    /** Writes the text at a new maker and says what trade answers. */
    private static int answer(String text) {
        PredictionMaker x = withMarket(60, 4);
        for (int market = 1; market < 6; market++) {
            x.openMarket(60, 4, 100);
        }
        return trade(x, text);
    }

    private static void error(String text, int offset) {
        due("'" + text + "'", answer(text), -2000 - offset);
    }

    /** "A text of at most 60 characters": 59, 60 and 61, one by one and at once. */
    private static void atMostSixtyCharacters() {
        PredictionMaker x = new PredictionMaker();
        for (int length = 1; length <= 60; length++) {
            due("the length", x.append('0', 1), length);
        }
        refused("one more", x, stateOf(x), x.append('0', 1), FULL);
        refused("sixty more", x, stateOf(x), x.append('0', 60), FULL);
        due("still sixty", x.count(5), 60);
        x.trade();
        due("empty again", x.count(5), 0);
        due("59", x.append('0', 59), 59);
        refused("61", x, stateOf(x), x.append('0', 2), FULL);
        due("60", x.append('0', 1), 60);

        String seven = "0+11m0.0;1+11m0.0;2+11m0.0;3+11m0.0;4+11m0.0;5+1m0.0;0-1m0.0";
        due("seven trades with 60 characters", seven.length(), 60);
        due("are traded", answer(seven), 7);
        String shorter = seven.replace("4+11", "4+1");
        due("with 59", shorter.length(), 59);
        due("are traded, too", answer(shorter), 7);
        String longer = seven.replace("5+1", "5+11");
        due("with 61", longer.length(), 61);
        error(longer, 60);
        String another = shorter + ";";
        due("the beginning of an eighth", another.length(), 60);
        error(another, 60);
    }

    /** "... is a list of trades: trade { ";" trade }": none, one, two, seven. */
    private static void lists() {
        error("", 0);
        due("one", answer("0+1m0.0"), 1);
        due("two", answer("0+1m0.0;0+1m0.0"), 2);
        due("seven", answer("0+1m0.0;1+1m0.0;2+1m0.0;3+1m0.0;4+1m0.0;5+1m0.0;0-1m0.0"), 7);
    }

    /** "trader is a digit from 0 to 5". */
    private static void traders() {
        for (int trader = 0; trader <= 5; trader++) {
            due("trader " + trader, answer(trader + "+1m0.0"), 1);
        }
        error("6+1m0.0", 0);
        error("9+1m0.0", 0);
        error("/+1m0.0", 0);
        error("00+1m0.0", 1);
        error("+1m0.0", 0);
    }

    /** ""+" is buying, "-" is selling." */
    private static void signs() {
        PredictionMaker x = withMarket(60, 2);
        due("buying", trade(x, "0+7m0.1"), 1);
        due("seven", x.holding(0, 0, 1), 7);
        due("selling", trade(x, "0-3m0.1"), 1);
        due("three", x.holding(0, 0, 1), 4);
        error("01m0.0", 1);
        error("0*1m0.0", 1);
        error("0,1m0.0", 1);
        error("0.1m0.0", 1);
        error("0++1m0.0", 2);
        error("0+-1m0.0", 2);
    }

    /** "... one or two digits ...; it is not 0 and its first digit is not 0." */
    private static void numbers() {
        int[] right = {1, 2, 9, 10, 11, 19, 20, 49, 50};
        for (int number : right) {
            PredictionMaker x = withMarket(60, 2);
            due("number " + number, trade(x, "2+" + number + "m0.1"), 1);
            due("bought", x.holding(2, 0, 1), number);
            due("sold", trade(x, "2-" + number + "m0.1"), 1);
            due("none is left", x.holding(2, 0, 1), 0);
        }
        error("2+0m0.1", 2);
        error("2+00m0.1", 2);
        error("2+01m0.1", 2);
        error("2+09m0.1", 2);
        error("2-0m0.1", 2);
        error("2+100m0.1", 4);
        error("2+111m0.1", 4);
        error("2+m0.1", 2);
        error("2+1 m0.1", 3);
    }

    /** "... market one from 0 to 5", behind the letter m. */
    private static void markets() {
        for (int market = 0; market <= 5; market++) {
            due("market " + market, answer("0+1m" + market + ".0"), 1);
        }
        error("0+1m6.0", 4);
        error("0+1m/.0", 4);
        error("0+1m.0", 4);
        error("0+1m00.0", 5);
        error("0+1M0.0", 3);
        error("0+12M0.0", 4);
        error("0+1mm0.0", 4);
        error("0+10.0", 4);
    }

    /** "... and outcome one from 0 to 3", behind a point. */
    private static void outcomes() {
        for (int outcome = 0; outcome <= 3; outcome++) {
            due("outcome " + outcome, answer("0+1m0." + outcome), 1);
        }
        error("0+1m0.4", 6);
        error("0+1m0./", 6);
        error("0+1m0.", 6);
        error("0+1m0,0", 5);
        error("0+1m0:0", 5);
        error("0+1m0..0", 6);
        error("0+1m0.00", 7);
    }

    /** "{ ";" trade }": between trades alone. */
    private static void separators() {
        error(";0+1m0.0", 0);
        error("0+1m0.0;", 8);
        error("0+1m0.0;;0+1m0.0", 8);
        error("0+1m0.0,0+1m0.0", 7);
        error("0+1m0.0 ;0+1m0.0", 7);
        error("0+1m0.0; 0+1m0.0", 8);
        error("0+1m0.00+1m0.0", 7);
        error("0+1m0.0\n", 7);
        error(" 0+1m0.0", 0);
    }

    /** "... or the length of the text if it ends too early": behind each character of two trades. */
    private static void endsTooEarly() {
        String two = "1+15m0.1;2-4m3.2";
        for (int length = 0; length <= two.length(); length++) {
            boolean whole = length == 8 || length == two.length();
            String text = two.substring(0, length);
            due("'" + text + "'", answer(text), whole ? 1 : -2000 - length);
        }
    }

    /** "... the offset of the first character that cannot continue such a list": of several, the first. */
    private static void firstThatCannotContinue() {
        String two = "1+15m0.1;2+4m3.2";
        for (int offset = 0; offset < two.length(); offset++) {
            error(two.substring(0, offset) + "!" + two.substring(offset + 1), offset);
            error(two.substring(0, offset) + "!!" + two.substring(offset), offset);
            error(two.substring(0, offset) + (char) 127, offset);
            error(two.substring(0, offset) + (char) 0, offset);
        }
        error("0+1m9.9;9", 4);
        PredictionMaker x = withMarket(60, 2);
        due("an error behind a right trade", trade(x, "0+1m0.0;0+1m0.0;x"), -2016);
        due("and none is done", x.count(4), 0);
        due("the text is empty", x.count(5), 0);
    }

    /** "... counts of 51 to 99 can be read, and are refused when it is their turn": 50, 51, 98, 99. */
    private static void countsFrom51To99() {
        for (int number : new int[] {50, 51, 52, 98, 99}) {
            PredictionMaker x = withMarket(60, 2);
            fill(x, 0, 0, 0, 50);
            String text = "1+2m0.1;0-" + number + "m0.0;1+3m0.1";
            due("selling " + number, trade(x, text), number > 50 ? 1 : 3);
            due("the first is done", x.holding(1, 0, 1) >= 2 ? 1 : 0, 1);
            due("the last", x.holding(1, 0, 1), number > 50 ? 2 : 5);
            due("what is held", x.holding(0, 0, 0), number > 50 ? 50 : 0);
            due("buying " + number, trade(x, "2+" + number + "m0.0"), number > 50 ? 0 : 1);
            due("no syntax error, and the text is empty", x.count(5), 0);
        }
        error("0+99m0.0;0+100m0.0", 13);
    }

    /** "... as by buy and sell, until one of these calls would return NONE or an error code." */
    private static void asByBuyAndSell() {
        PredictionMaker x = withMarket(60, 2);
        PredictionMaker y = withMarket(60, 2);
        for (PredictionMaker each : new PredictionMaker[] {x, y}) {
            each.openMarket(60, 2, 50);
            each.place(4, 0, 1, 9, 1440);
            each.place(5, 0, 0, 2, 1500);
        }
        due("four trades", trade(x, "0+9m0.0;1+20m1.1;0-4m0.0;1+1m0.1"), 4);
        y.buy(0, 0, 0, 9);
        y.buy(1, 1, 1, 20);
        y.sell(0, 0, 0, 4);
        y.buy(1, 0, 1, 1);
        isTrue("the same", stateOf(x).equals(stateOf(y)));
        String[] refused = {"0+1m2.0", "0+1m0.2", "0-1m1.0", "0+51m0.0", "0+1m5.3"};
        for (String one : refused) {
            String before = stateOf(x);
            refused("at once " + one, x, before, trade(x, one), 0);
            refused("before another " + one, x, before, trade(x, one + ";1+1m0.0"), 0);
        }
        x.tick(50);
        refused("an expired market", x, stateOf(x), trade(x, "0+1m1.0;0+1m0.0"), 0);
        due("but the other one", trade(x, "0+1m0.0;0+1m1.0;0+1m0.0"), 1);
        setBalance(x, 0, 0);
        refused("without money", x, stateOf(x), trade(x, "0+1m0.0"), 0);
    }
}
