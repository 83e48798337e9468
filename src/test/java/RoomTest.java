import java.lang.management.ManagementFactory;

/** After the constructor no call makes an object, and no call throws, however many there are. */
public final class RoomTest extends Check {
    private static final int CALLS = 400000;
    private static final int[] EDGES = {
        Integer.MIN_VALUE, Integer.MAX_VALUE, -1000000001, -1, 0, 1, 2, 3, 4, 5, 6, 50, 51, 100, 400,
    };

    private static long seed = 1;

    private static int number(int below) {
        seed = seed * 6364136223846793005L + 1442695040888963407L;
        return (int) ((seed >>> 33) % below);
    }

    /** Seldom an edge, mostly a number that fits. */
    private static int of(int below) {
        return number(30) == 0 ? EDGES[number(EDGES.length)] : number(below);
    }

    private static int ask(PredictionMaker x, int method) {
        switch (method) {
            case 0:
                return x.price(of(6), of(4));
            case 1:
                return x.cost(of(6), of(4), of(101) - 50);
            case 2:
                return x.order(of(3000), of(6));
            case 3:
                return x.waiting(of(6), of(16));
            case 4:
                return x.market(of(6), of(12));
            case 5:
                return x.sharesFor(of(6), of(4), of(2881));
            case 6:
                return x.voidReason(of(6), of(6));
            case 7:
                return x.shares(of(6), of(4)) + x.paid(of(6), of(6));
            case 8:
                return x.holding(of(6), of(6), of(4));
            case 9:
                return x.trader(of(6), of(4));
            case 10:
                return x.affordable(of(6), of(6), of(4));
            case 11:
                return x.history(of(30), of(6));
            default:
                return x.count(of(8));
        }
    }

    private static int change(PredictionMaker x, int method) {
        switch (method) {
            case 0:
                return x.openMarket(of(61), of(5), x.count(3) + of(300));
            case 1:
                return x.openLinked(of(61), of(5), x.count(3) + of(300), of(6), of(4));
            case 2:
                return x.deposit(of(6), of(501));
            case 3:
                return x.withdraw(of(6), of(100000));
            case 4:
                return x.buy(of(6), of(6), of(4), of(51));
            case 5:
                return x.buySet(of(6), of(6), of(16), of(51));
            case 6:
                return x.sell(of(6), of(6), of(4), of(51));
            case 7:
                return x.place(of(6), of(6), of(4), of(51), of(2881));
            case 8:
                return x.cancel(x.waiting(of(6), of(16)));
            case 9:
                return number(300) == 0 ? x.tick(of(101)) : 0;
            case 10:
                return number(30) == 0 ? x.settle(of(6), of(4)) : 0;
            case 11:
                return number(300) == 0 ? x.cancelMarket(of(6)) : 0;
            case 12:
                return x.append(of(128), of(61));
            case 13:
                return text(x);
            case 14:
                return number(200) == 0 ? x.save() : 0;
            default:
                return number(20) == 0 ? x.restore() : 0;
        }
    }

    private static int text(PredictionMaker x) {
        x.trade();
        x.append('0' + number(6), 1);
        x.append(number(2) == 0 ? '+' : '-', 1);
        x.append('1' + number(9), 1);
        x.append('m', 1);
        x.append('0' + number(6), 1);
        x.append('.', 1);
        x.append('0' + number(4), 1);
        return x.trade();
    }

    private static long run(PredictionMaker x, int calls) {
        long sum = 0;
        for (int i = 0; i < calls; i++) {
            sum += number(2) == 0 ? ask(x, number(13)) : change(x, number(16));
        }
        return sum;
    }

    public static void main(String[] args) {
        com.sun.management.ThreadMXBean threads =
                (com.sun.management.ThreadMXBean) ManagementFactory.getThreadMXBean();
        PredictionMaker x = new PredictionMaker();
        run(x, 20000);
        threads.getCurrentThreadAllocatedBytes();
        long before = threads.getCurrentThreadAllocatedBytes();
        long sum = run(x, CALLS);
        long made = threads.getCurrentThreadAllocatedBytes() - before;
        isTrue("bytes made by " + CALLS + " calls: " + made, made < 1000);
        isTrue("the calls did something", sum != 0 && x.count(4) > 0);
        end();
    }
}
