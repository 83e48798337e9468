/** Promise 29: trade, and the grammar of its text. */
public final class Promise29TradeTest extends Check {
    public static void main(String[] args) {
        traded();
        errors();
        everySign();
        stops();
        wholeText();
        end();
    }

    private static void traded() {
        PredictionMaker x = withMarket(60, 4);
        x.openMarket(60, 2, 100);
        due("two trades", trade(x, "2+15m0.1;2-4m0.1"), 2);
        due("the holding", x.holding(2, 0, 1), 11);
        due("the text is empty", x.count(5), 0);
        due("the trades are in the history", x.count(4), 2);
        due("the latest", x.history(0, 3), -4);
        due("the highest numbers", trade(x, "5+50m0.3"), 1);
        due("bought", x.holding(5, 0, 3), 50);
        due("all sold", trade(x, "5-50m0.3"), 1);
        due("a lower market of two digits' number", trade(x, "0+10m1.0;0-9m1.0"), 2);
        due("one is left", x.holding(0, 1, 0), 1);
        x.place(3, 0, 1, 1, 800);
        due("the order waits", x.order(0, 5), 1);
        trade(x, "2-9m0.1");
        due("orders are executed, too", x.holding(3, 0, 1), 1);
    }

    private static void errors() {
        String[] wrong = {
            "0", "", "1", "0", "2", "0+", "3", "0+1", "4", "0+1m", "5", "0+1m0", "6", "0+1m0.",
            "3", "0+9", "4", "0+99", "8", "0+1m0.0;", "9", "0+1m0.0;0", "10", "0+1m0.0;0+",
            "0", "6+1m0.0", "0", "/+1m0.0", "0", ":+1m0.0", "0", "+1m0.0", "0", ";0+1m0.0",
            "1", "0*1m0.0", "1", "0,1m0.0", "1", "0.1m0.0", "1", "00+1m0.0",
            "2", "0+0m0.0", "2", "0+00m0.0", "2", "0+01m0.0", "2", "0+m0.0", "2", "0+-1m0.0",
            "2", "0+:m0.0", "2", "0+/m0.0",
            "3", "0+1/m0.0", "3", "0+1:m0.0", "3", "0+1M0.0", "3", "0+1 m0.0",
            "4", "0+100m0.0", "4", "0+12.0", "4", "0+12n0.0",
            "4", "0+1m6.0", "4", "0+1m/.0", "4", "0+1m.0", "5", "0+1m00.0", "5", "0+1m0,0",
            "6", "0+1m0.4", "6", "0+1m0./", "6", "0+1m0..", "7", "0+1m0.00", "7", "0+1m0.0,",
            "8", "0+1m0.0;;", "8", "0+1m0.0; ", "7", "0+1m0.0:", "7", "0+1m0.0 ;0+1m0.0",
            "8", "0+1m0.0;6+1m0.0", "15", "0+1m0.0;0+1m0.0x",
        };
        for (int i = 0; i < wrong.length; i += 2) {
            PredictionMaker x = withMarket(60, 2);
            String before = stateOf(x);
            int due = -2000 - Integer.parseInt(wrong[i]);
            refused("'" + wrong[i + 1] + "'", x, before, trade(x, wrong[i + 1]), due);
        }
    }

    /** At each place of a trade, the signs that may stand there, and no others. */
    private static void everySign() {
        String right = "1+12m1.1;";
        String[] fit = {"012345", "+-", "123456789", "0123456789m", "m", "012345", ".", "0123", ";"};
        for (int offset = 0; offset < fit.length; offset++) {
            for (int code = 0; code < 128; code++) {
                PredictionMaker x = new PredictionMaker();
                write(x, right.substring(0, offset));
                x.append(code, 1);
                boolean fits = fit[offset].indexOf(code) >= 0;
                int length = offset + 1;
                boolean whole = offset == 7;
                int due = !fits ? -2000 - offset : whole ? 0 : -2000 - length;
                due("code " + code + " at " + offset, x.trade(), due);
                due("the text is empty", x.count(5), 0);
            }
        }
    }

    /** The first trade that buy or sell would refuse ends it. */
    private static void stops() {
        String[] refused = {"0+51m0.0", "0+99m0.0", "0-51m0.0", "0+1m1.0", "0+1m0.2", "0-5m0.0",
            "0+1m5.3", "1-1m0.0", "4+1m0.0"};
        for (String one : refused) {
            PredictionMaker x = withMarket(60, 2);
            x.withdraw(4, 500 * COIN);
            due("refused at once " + one, trade(x, one), 0);
            due("one before " + one, trade(x, "0+3m0.0;" + one + ";2+7m0.1"), 1);
            due("was done", x.holding(0, 0, 0), 3);
            due("the one behind was not", x.holding(2, 0, 1), 0);
            due("the text is empty", x.count(5), 0);
        }
        PredictionMaker x = withMarket(60, 2);
        x.tick(100);
        due("an expired market", trade(x, "0+1m0.0"), 0);
        due("a market that came to be full", full(), 2);
    }

    private static int full() {
        PredictionMaker x = withMarket(60, 2);
        fill(x, 0, 0, 0, 350);
        return trade(x, "1+25m0.0;1+25m0.0;1+1m0.0");
    }

    private static void wholeText() {
        PredictionMaker x = withMarket(60, 2);
        String seven = "0+1m0.0;1+1m0.0;2+1m0.0;3+1m0.0;4+1m0.0;5+1m0.0;0+12m0.1";
        due("56 characters", seven.length(), 56);
        due("seven trades", trade(x, seven), 7);
        due("six shares", x.shares(0, 0), 6);
        String long60 = "0+11m0.0;1+11m0.0;2+11m0.0;3+11m0.0;4+11m0.0;5+11m0.0;0-11m0";
        due("60 characters", long60.length(), 60);
        due("the text ends too early", trade(x, long60), -2060);
        due("nothing was done", x.shares(0, 0), 6);
    }
}
