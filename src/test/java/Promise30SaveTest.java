/** Promise 30: save. */
public final class Promise30SaveTest extends Check {
    public static void main(String[] args) {
        PredictionMaker x = new PredictionMaker();
        due("no markets", x.save(), 0);
        x.openMarket(60, 2, 50);
        x.openMarket(60, 2, 50);
        due("markets", x.save(), 2);
        String before = stateOf(x);
        x.save();
        due("saving changes nothing", stateOf(x).equals(before) ? 1 : 0, 1);
        x.deposit(0, 1);
        x.openMarket(60, 2, 50);
        due("the later snapshot replaces the earlier one", x.save(), 3);
        x.cancelMarket(0);
        x.restore();
        due("its markets", x.count(0), 3);
        due("its money", x.trader(0, 0), COIN);
        due("its states", x.market(0, 0), 0);
        x.append('0', 5);
        x.save();
        due("the text is not touched", x.count(5), 5);
        end();
    }
}
