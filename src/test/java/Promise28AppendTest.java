/** Promise 28: append. */
public final class Promise28AppendTest extends Check {
    public static void main(String[] args) {
        PredictionMaker x = new PredictionMaker();
        due("a character", x.append('0', 1), 1);
        due("three more", x.append('1', 3), 4);
        due("the lowest code", x.append(0, 1), 5);
        due("the highest code", x.append(127, 1), 6);
        due("code -1", x.append(-1, 1), BAD_ARGUMENT);
        due("code 128", x.append(128, 1), BAD_ARGUMENT);
        due("count 0", x.append('0', 0), BAD_ARGUMENT);
        due("count -1", x.append('0', -1), BAD_ARGUMENT);
        due("count 61", x.append('0', 61), BAD_ARGUMENT);
        for (int wild : WILD) {
            due("code " + wild, x.append(wild, 1), BAD_ARGUMENT);
            due("count " + wild, x.append('0', wild), BAD_ARGUMENT);
        }
        due("61 characters", x.append('0', 55), FULL);
        due("bad before full", x.append(128, 55), BAD_ARGUMENT);
        due("nothing was appended", x.count(5), 6);
        due("60 characters", x.append('0', 54), 60);
        due("one more", x.append('0', 1), FULL);
        due("the characters count", x.trade(), -2001);
        due("sixty at once", x.append('5', 60), 60);
        x.trade();
        written();
        end();
    }

    /** The characters stand in the order in which they were appended. */
    private static void written() {
        PredictionMaker x = withMarket(60, 2);
        x.append('0', 1);
        x.append('+', 1);
        x.append('1', 2);
        x.append('m', 1);
        x.append('0', 1);
        x.append('.', 1);
        x.append('1', 1);
        due("0+11m0.1", x.trade(), 1);
        due("eleven shares", x.holding(0, 0, 1), 11);
    }
}
