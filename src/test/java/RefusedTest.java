import java.util.Random;

/**
 * What a refused call or a question could change in secret: two makers get the same chance calls,
 * but the second one none of those that the first one refused, and no questions. All later answers
 * must be the same.
 */
public final class RefusedTest extends Check {
    private static final int RUNS = 1500;
    private static final int CALLS = 500;
    private static final int[] LIQUIDITIES = {1, 2, 5, 12, 60};
    private static final int[] EDGES = {
        Integer.MIN_VALUE, -2, -1, 0, 4, 5, 6, 16, 50, 51, 61, 101, 401, 501, 1000, 2881, 5000001,
        Integer.MAX_VALUE,
    };

    private final Random random;
    private int refusals;
    private int changes;

    private RefusedTest(long seed) {
        random = new Random(seed);
    }

    /** Mostly a number from 0 on, below this; at times one that fits nowhere or only somewhere. */
    private int of(int below) {
        return random.nextInt(12) == 0 ? EDGES[random.nextInt(EDGES.length)] : random.nextInt(below);
    }

    /** A call that can change something, with its arguments. */
    private int[] change() {
        int method = random.nextInt(40);
        int liquidity = random.nextInt(8) == 0 ? of(61) : LIQUIDITIES[random.nextInt(5)];
        switch (method) {
            case 0: case 1:
                return new int[] {0, liquidity, of(5), of(200)};
            case 2: case 3: case 4:
                return new int[] {1, liquidity, of(5), of(200), of(4), of(3)};
            case 5: case 6: case 7:
                return new int[] {2, of(6), 1 + of(60)};
            case 8: case 9:
                return new int[] {3, of(6), of(90000)};
            case 10: case 11: case 12: case 13: case 14: case 15:
                return new int[] {4, of(6), of(3), of(3), of(51)};
            case 16: case 17: case 18: case 19:
                return new int[] {5, of(6), of(3), of(9), of(51)};
            case 20: case 21: case 22: case 23: case 24:
                return new int[] {6, of(6), of(3), of(3), of(30)};
            case 25: case 26: case 27: case 28: case 29: case 30:
                return new int[] {7, of(6), of(3), of(3), of(20), of(2881)};
            case 31: case 32:
                return new int[] {8, of(30)};
            case 33:
                return new int[] {9, of(7)};
            case 34:
                return new int[] {10, of(6), of(3)};
            case 35:
                return random.nextInt(5) == 0 ? new int[] {11, of(6)} : new int[] {12, of(128), of(5)};
            case 36: case 37:
                return new int[] {13};
            case 38:
                return new int[] {14};
            default:
                return new int[] {15};
        }
    }

    private static int answer(PredictionMaker x, int[] a) {
        switch (a[0]) {
            case 0:
                return x.openMarket(a[1], a[2], x.count(3) + a[3]);
            case 1:
                return x.openLinked(a[1], a[2], x.count(3) + a[3], a[4], a[5]);
            case 2:
                return x.deposit(a[1], a[2]);
            case 3:
                return x.withdraw(a[1], a[2]);
            case 4:
                return x.buy(a[1], a[2], a[3], a[4]);
            case 5:
                return x.buySet(a[1], a[2], a[3], a[4]);
            case 6:
                return x.sell(a[1], a[2], a[3], a[4]);
            case 7:
                return x.place(a[1], a[2], a[3], a[4], a[5]);
            case 8:
                return x.cancel(a[1]);
            case 9:
                return x.tick(a[1]);
            case 10:
                return x.settle(a[1], a[2]);
            case 11:
                return x.cancelMarket(a[1]);
            case 12:
                return x.append(a[1], a[2]);
            case 13:
                return trade(x, "0+3m0.1;1-2m0.0;2+1m1.1");
            case 14:
                return x.save();
            default:
                return x.restore();
        }
    }

    private void ask(PredictionMaker x) {
        x.cost(of(6), of(4), of(101) - 50);
        x.order(of(30), of(6));
        x.waiting(of(6), of(6));
        x.market(of(6), of(12));
        x.price(of(6), of(4));
        x.sharesFor(of(6), of(4), of(2881));
        x.voidReason(of(6), of(6));
        x.shares(of(6), of(4));
        x.holding(of(6), of(6), of(4));
        x.trader(of(6), of(4));
        x.paid(of(6), of(6));
        x.affordable(of(6), of(6), of(4));
        x.history(of(30), of(6));
        x.count(of(8));
    }

    private void run(int run) {
        PredictionMaker x = new PredictionMaker();
        PredictionMaker y = new PredictionMaker();
        for (int call = 0; call < CALLS; call++) {
            int[] change = change();
            int got = answer(x, change);
            if (got >= NOT_ENOUGH && got <= NONE) {
                refusals++;
            } else {
                changes++;
                due("run " + run + ", call " + call, answer(y, change), got);
            }
            if (random.nextInt(4) == 0) {
                ask(x);
            }
        }
        isTrue("the end of run " + run, stateOf(x).equals(stateOf(y)));
        due("the texts of run " + run, x.trade(), y.trade());
        due("the snapshots of run " + run, x.restore(), y.restore());
        isTrue("what they held in run " + run, stateOf(x).equals(stateOf(y)));
    }

    public static void main(String[] args) {
        RefusedTest test = new RefusedTest(20261120);
        for (int run = 0; run < RUNS; run++) {
            test.run(run);
        }
        isTrue("refusals: " + test.refusals, test.refusals > 100000);
        isTrue("changes: " + test.changes, test.changes > 100000);
        end();
    }
}
