import java.lang.reflect.InvocationTargetException;
import java.lang.reflect.Method;
import java.util.ArrayList;
import java.util.HashMap;
import java.util.List;
import java.util.Map;
import java.util.Random;
import java.util.Set;

/**
 * Runs of 512 chance calls, the same on the class and on the model, compared answer by answer;
 * the seeds are fixed, so that each run of the test makes the same calls.
 */
public final class ModelTest {
    private static final int RUNS = 6000;
    private static final int CALLS = 512;
    private static final long SEED = 20261119;
    private static final int[] LIQUIDITIES = {1, 2, 3, 4, 5, 6, 10, 12, 15, 20, 30, 60};

    /** A method, how often it is called, and a letter for what each argument is. */
    private static final String[] CALLED = {
        "openMarket 6 lne", "openLinked 8 lnemo", "deposit 14 td", "withdraw 5 tu", "cost 5 mok",
        "buy 30 tmoc", "buySet 10 tmsc", "sell 18 tmoc", "place 30 tmocp", "cancel 4 r",
        "order 12 rw", "waiting 6 mi", "tick 6 y", "settle 8 mo", "cancelMarket 2 m",
        "market 12 mw", "price 5 mo", "sharesFor 4 mop", "voidReason 6 mi", "shares 4 mo",
        "holding 4 tmo", "trader 8 tw", "paid 5 tm", "affordable 5 tmo", "history 10 iw",
        "count 8 w", "append 2 ab", "trade 8 ", "save 2 ", "restore 2 ",
    };

    /** What ends markets: seldom called in runs of long markets, so that these fill. */
    private static final List<String> ENDING = List.of("tick", "cancelMarket", "settle");

    private final Random random;
    private final Map<String, Method> ofClass = new HashMap<>();
    private final Map<String, Method> ofModel = new HashMap<>();
    private final List<String> names = new ArrayList<>();
    private final Map<String, String> kinds = new HashMap<>();
    private final Map<String, Integer> met = new HashMap<>();
    private PredictionMaker maker = new PredictionMaker();
    private int style;

    private ModelTest(long seed) {
        random = new Random(seed);
        for (Method m : PredictionMaker.class.getDeclaredMethods()) {
            ofClass.put(m.getName(), m);
        }
        for (Method m : Model.class.getDeclaredMethods()) {
            ofModel.put(m.getName(), m);
        }
        for (String called : CALLED) {
            String[] parts = called.split(" ", -1);
            kinds.put(parts[0], parts[2]);
            for (int i = 0; i < Integer.parseInt(parts[1]); i++) {
                names.add(parts[0]);
            }
        }
    }

    private int pick(int least, int most) {
        return least + random.nextInt(most - least + 1);
    }

    private int wild() {
        int[] edges = {Integer.MIN_VALUE, Integer.MAX_VALUE, -1, 0, 61, 401, 2881, 5000001, 999, 1000};
        return random.nextBoolean() ? edges[random.nextInt(edges.length)] : random.nextInt();
    }

    private int argument(char kind) {
        if (random.nextInt(80) == 0) {
            return wild();
        }
        boolean few = style != 0;
        switch (kind) {
            case 'l':
                return random.nextInt(12) == 0 ? pick(-1, 61) : LIQUIDITIES[random.nextInt(12)];
            case 'n':
                return random.nextInt(12) == 0 ? pick(1, 5) : pick(2, 4);
            case 'e':
                return maker.count(3) + (style == 2 || random.nextInt(10) == 0 ? pick(-1, 900) : pick(1, 40));
            case 'm':
                return random.nextInt(25) == 0 ? pick(-1, 6) : pick(0, few ? 1 : 5);
            case 'o':
                return random.nextInt(25) == 0 ? pick(-1, 4) : pick(0, few ? 1 : 3);
            case 't':
                return random.nextInt(40) == 0 ? pick(-1, 6) : pick(0, few ? 1 : 5);
            case 'c':
                return random.nextInt(25) == 0 ? pick(0, 51) : few ? pick(30, 50) : pick(1, 20);
            case 'd':
                return few && random.nextInt(4) == 0 ? pick(400, 500) : argument('c');
            case 'k':
                return pick(-52, 52);
            case 'u':
                return random.nextInt(6) == 0 ? pick(1, 5000000) : pick(1, 200000);
            case 's':
                return pick(1, 15);
            case 'p':
                return random.nextInt(4) == 0 ? 2880 : pick(0, 2881);
            case 'r':
                int waiting = maker.waiting(pick(0, few ? 1 : 5), pick(0, 3));
                return waiting >= 0 ? waiting : pick(0, 40);
            case 'w':
                return pick(-1, 12);
            case 'i':
                return pick(-1, random.nextInt(3) == 0 ? 31 : 3);
            case 'y':
                return random.nextInt(20) == 0 ? pick(0, 101) : pick(1, 8);
            case 'a':
                return pick(-1, 128);
            case 'b':
                return pick(0, random.nextInt(3) == 0 ? 61 : 3);
            default:
                throw new IllegalStateException("no such kind of argument");
        }
    }

    private String tradeText() {
        StringBuilder out = new StringBuilder();
        int trades = pick(1, 4);
        for (int i = 0; i < trades; i++) {
            out.append(i == 0 ? "" : ";").append(pick(0, 5)).append(random.nextBoolean() ? '+' : '-')
                    .append(pick(1, random.nextInt(6) == 0 ? 99 : 12)).append('m')
                    .append(pick(0, 5)).append('.').append(pick(0, 3));
        }
        if (random.nextInt(4) == 0) {
            String signs = "0123456789+-m.;x ";
            out.setCharAt(random.nextInt(out.length()), signs.charAt(random.nextInt(signs.length())));
        }
        if (random.nextInt(8) == 0) {
            out.setLength(random.nextInt(out.length() + 1));
        }
        return out.toString();
    }

    private int answer(Map<String, Method> methods, Object of, String name, Object[] arguments) {
        try {
            return (int) methods.get(name).invoke(of, arguments);
        } catch (IllegalAccessException | InvocationTargetException e) {
            e.printStackTrace(System.out);
            throw new IllegalStateException(name + " threw");
        }
    }

    private boolean agree(Model model, String name, Object... arguments) {
        int got = answer(ofClass, maker, name, arguments);
        int want = answer(ofModel, model, name, arguments);
        if (want <= Model.NONE) {
            met.merge(name + want, 1, Integer::sum);
        }
        if (name.equals("order") && (int) arguments[1] == 5 || name.equals("voidReason")) {
            met.merge(name + "=" + want, 1, Integer::sum);
        }
        if (got != want) {
            System.out.println(name + java.util.Arrays.toString(arguments) + " answered " + got
                    + ", the model answers " + want);
        }
        return got == want;
    }

    private boolean run() {
        maker = new PredictionMaker();
        Model model = new Model();
        style = random.nextInt(3);
        for (int call = 0; call < CALLS; call++) {
            String name = names.get(random.nextInt(names.size()));
            if (style == 2 && ENDING.contains(name) && random.nextInt(8) != 0) {
                continue;
            }
            if (name.equals("trade") && random.nextInt(10) != 0) {
                for (char c : tradeText().toCharArray()) {
                    if (!agree(model, "append", (int) c, 1)) {
                        return false;
                    }
                }
            }
            String letters = kinds.get(name);
            Object[] arguments = new Object[letters.length()];
            for (int i = 0; i < arguments.length; i++) {
                arguments[i] = argument(letters.charAt(i));
            }
            if (!agree(model, name, arguments)) {
                return false;
            }
        }
        return agreeOnAll(model);
    }

    private boolean agreeOnAll(Model model) {
        boolean same = true;
        for (int i = 0; i < 12; i++) {
            for (int m = 0; m < 6; m++) {
                same &= agree(model, "market", m, i) & agree(model, "waiting", m, i);
                same &= agree(model, "paid", i, m) & agree(model, "trader", m, i);
                same &= agree(model, "holding", i, m, i % 4);
            }
            same &= agree(model, "count", i);
        }
        return same;
    }

    /** Each method with each code that it answered in so many runs, as in "buy-1000000002". */
    static Set<String> refusals(int runs) {
        ModelTest test = new ModelTest(SEED);
        for (int run = 0; run < runs; run++) {
            if (!test.run()) {
                throw new IllegalStateException("the class and the model differ");
            }
        }
        return test.met.keySet();
    }

    public static void main(String[] args) {
        int runs = args.length > 0 ? Integer.parseInt(args[0]) : RUNS;
        ModelTest test = new ModelTest(SEED);
        for (int run = 0; run < runs; run++) {
            if (!test.run()) {
                System.out.println("in run " + run);
                System.exit(1);
            }
        }
        System.out.println(new java.util.TreeMap<>(test.met));
    }
}
