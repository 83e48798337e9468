import java.util.ArrayList;
import java.util.Comparator;
import java.util.HashMap;
import java.util.List;
import java.util.Map;

/**
 * The document once more, written as near to its words as can be and unlike the class: it sorts
 * the outcomes, follows conditions by recursion, looks for the best order each time, and makes
 * snapshots by copying. ModelTest compares the class with it.
 */
final class Model {
    static final int NONE = -1000000001;
    static final int BAD_ARGUMENT = -1000000002;
    static final int FULL = -1000000003;
    static final int STATE = -1000000004;
    static final int NOT_ENOUGH = -1000000005;

    private record Trade(int trader, int market, int outcome, int count, int cost, int order) {
        int part(int what) {
            return switch (what) {
                case 0 -> trader;
                case 1 -> market;
                case 2 -> outcome;
                case 3 -> count;
                case 4 -> cost;
                case 5 -> order;
                default -> BAD_ARGUMENT;
            };
        }
    }

    private static final class Bid {
        int number;
        int trader;
        int market;
        int outcome;
        int left;
        int limit;

        Bid copy() {
            Bid b = new Bid();
            b.number = number;
            b.trader = trader;
            b.market = market;
            b.outcome = outcome;
            b.left = left;
            b.limit = limit;
            return b;
        }
    }

    private static final class Mart {
        int number;
        int b;
        int n;
        int expiry;
        int condition = -1;
        int conditionOutcome = -1;
        int state;
        int winner = -1;
        int reason;
        long account;
        Map<Integer, int[]> held = new HashMap<>();
        long[] paid = new long[6];

        Mart copy() {
            Mart m = new Mart();
            m.number = number;
            m.b = b;
            m.n = n;
            m.expiry = expiry;
            m.condition = condition;
            m.conditionOutcome = conditionOutcome;
            m.state = state;
            m.winner = winner;
            m.reason = reason;
            m.account = account;
            for (Map.Entry<Integer, int[]> e : held.entrySet()) {
                m.held.put(e.getKey(), e.getValue().clone());
            }
            m.paid = paid.clone();
            return m;
        }

        int[] holdingOf(int trader) {
            return held.computeIfAbsent(trader, k -> new int[n]);
        }

        int[] q() {
            int[] q = new int[n];
            for (int t = 0; t < 6; t++) {
                for (int i = 0; i < n; i++) {
                    q[i] += holdingOf(t)[i];
                }
            }
            return q;
        }

        List<Integer> active(int[] q) {
            List<Integer> order = new ArrayList<>();
            for (int i = 0; i < n; i++) {
                order.add(i);
            }
            order.sort(Comparator.<Integer>comparingInt(i -> -q[i]).thenComparingInt(i -> i));
            List<Integer> active = new ArrayList<>();
            long sum = 0;
            for (int i : order) {
                int k = active.size();
                if (k > 0 && !((long) q[i] * k > sum - 2L * b)) {
                    break;
                }
                active.add(i);
                sum += q[i];
            }
            return active;
        }

        long exact(long a, long d) {
            if (a % d != 0) {
                throw new IllegalStateException("remainder");
            }
            return a / d;
        }

        long level(int[] q) {
            long sum = 0;
            long squares = 0;
            List<Integer> active = active(q);
            for (int i : active) {
                sum += q[i];
                squares += (long) q[i] * q[i];
            }
            long d = sum - 2L * b;
            return exact(60, b) * (12 * squares - exact(12, active.size()) * d * d);
        }

        long price(int[] q, int outcome) {
            List<Integer> active = active(q);
            if (!active.contains(outcome)) {
                return 0;
            }
            long sum = 0;
            for (int i : active) {
                sum += q[i];
            }
            return exact(120, b) * (12L * q[outcome] - exact(12, active.size()) * (sum - 2L * b));
        }

        long cost(int set, int count) {
            int[] q = q();
            long before = level(q);
            for (int i = 0; i < n; i++) {
                if ((set & 1 << i) != 0) {
                    q[i] += count;
                }
            }
            return level(q) - before;
        }
    }

    private static final class All {
        long[] balance = new long[6];
        List<Mart> marts = new ArrayList<>();
        List<Bid> bids = new ArrayList<>();
        List<Trade> trades = new ArrayList<>();
        int placed;
        int time;

        All copy() {
            All a = new All();
            a.balance = balance.clone();
            for (Mart m : marts) {
                a.marts.add(m.copy());
            }
            for (Bid b : bids) {
                a.bids.add(b.copy());
            }
            a.trades.addAll(trades);
            a.placed = placed;
            a.time = time;
            return a;
        }
    }

    private All all = new All();
    private All snapshot;
    private String text = "";

    private boolean isMart(int m) {
        return m >= 0 && m < all.marts.size();
    }

    private boolean isOutcome(int m, int o) {
        return isMart(m) && o >= 0 && o < all.marts.get(m).n;
    }

    private boolean live(Mart m) {
        return m.state < 2;
    }

    private boolean badOpening(int b, int n, int expiry) {
        return b < 1 || b > 60 || 60 % b != 0 || n < 2 || n > 4 || expiry <= all.time || expiry > 999;
    }

    private int open(int b, int n, int expiry, int condition, int outcome) {
        if (all.marts.size() == 6) {
            return FULL;
        }
        Mart m = new Mart();
        m.number = all.marts.size();
        m.b = b;
        m.n = n;
        m.expiry = expiry;
        m.condition = condition;
        m.conditionOutcome = outcome;
        all.marts.add(m);
        return m.number;
    }

    public int openMarket(int b, int n, int expiry) {
        return badOpening(b, n, expiry) ? BAD_ARGUMENT : open(b, n, expiry, -1, -1);
    }

    public int openLinked(int b, int n, int expiry, int market, int outcome) {
        if (badOpening(b, n, expiry)) {
            return BAD_ARGUMENT;
        }
        if (!isOutcome(market, outcome)) {
            return NONE;
        }
        if (!live(all.marts.get(market))) {
            return STATE;
        }
        return open(b, n, expiry, market, outcome);
    }

    public int deposit(int t, int coins) {
        if (t < 0 || t > 5 || coins < 1 || coins > 500) {
            return BAD_ARGUMENT;
        }
        if (all.balance[t] + coins * 2880L > 5000000) {
            return FULL;
        }
        all.balance[t] += coins * 2880L;
        long answer = all.balance[t];
        for (Mart m : all.marts) {
            execute(m);
        }
        return (int) answer;
    }

    public int withdraw(int t, int units) {
        if (t < 0 || t > 5 || units < 1 || units > 5000000) {
            return BAD_ARGUMENT;
        }
        if (all.balance[t] < units) {
            return NOT_ENOUGH;
        }
        all.balance[t] -= units;
        return (int) all.balance[t];
    }

    public int cost(int market, int outcome, int count) {
        if (!isOutcome(market, outcome)) {
            return NONE;
        }
        if (count == 0 || count < -50 || count > 50) {
            return BAD_ARGUMENT;
        }
        Mart m = all.marts.get(market);
        int after = m.q()[outcome] + count;
        return after < 0 || after > 400 ? FULL : (int) m.cost(1 << outcome, count);
    }

    private long deal(int t, Mart m, int outcome, int count, int order) {
        long cost = m.cost(1 << outcome, count);
        all.balance[t] -= cost;
        m.account += cost;
        m.paid[t] += cost;
        m.holdingOf(t)[outcome] += count;
        all.trades.add(new Trade(t, m.number, outcome, count, (int) cost, order));
        return cost;
    }

    private int why(Bid b) {
        Mart m = all.marts.get(b.market);
        long cost = m.cost(1 << b.outcome, 1);
        if (cost > b.limit) {
            return 1;
        }
        if (cost > all.balance[b.trader]) {
            return 2;
        }
        return m.q()[b.outcome] >= 400 ? 3 : 0;
    }

    private void execute(Mart m) {
        while (true) {
            Bid best = null;
            for (Bid b : all.bids) {
                boolean better = best == null || b.limit > best.limit
                        || b.limit == best.limit && b.number < best.number;
                if (b.market == m.number && better && why(b) == 0) {
                    best = b;
                }
            }
            if (best == null) {
                return;
            }
            deal(best.trader, m, best.outcome, 1, best.number);
            best.left--;
            if (best.left == 0) {
                all.bids.remove(best);
            }
        }
    }

    public int buy(int t, int market, int outcome, int count) {
        if (t < 0 || t > 5 || count < 1 || count > 50) {
            return BAD_ARGUMENT;
        }
        return isOutcome(market, outcome) ? buySet(t, market, 1 << outcome, count) : NONE;
    }

    public int buySet(int t, int market, int set, int count) {
        if (t < 0 || t > 5 || count < 1 || count > 50) {
            return BAD_ARGUMENT;
        }
        if (!isMart(market)) {
            return NONE;
        }
        Mart m = all.marts.get(market);
        if (set == 0 || set >>> m.n != 0) {
            return BAD_ARGUMENT;
        }
        if (m.state != 0) {
            return STATE;
        }
        for (int i = 0; i < m.n; i++) {
            if ((set & 1 << i) != 0 && m.q()[i] + count > 400) {
                return FULL;
            }
        }
        long cost = m.cost(set, count);
        if (cost > all.balance[t]) {
            return NOT_ENOUGH;
        }
        long sum = 0;
        for (int i = 0; i < m.n; i++) {
            if ((set & 1 << i) != 0) {
                sum += deal(t, m, i, count, -1);
            }
        }
        if (sum != cost) {
            throw new IllegalStateException("the costs of a set do not add up");
        }
        execute(m);
        return (int) cost;
    }

    public int sell(int t, int market, int outcome, int count) {
        if (t < 0 || t > 5 || count < 1 || count > 50) {
            return BAD_ARGUMENT;
        }
        if (!isOutcome(market, outcome)) {
            return NONE;
        }
        Mart m = all.marts.get(market);
        if (m.state != 0) {
            return STATE;
        }
        if (m.holdingOf(t)[outcome] < count) {
            return NOT_ENOUGH;
        }
        long cost = deal(t, m, outcome, -count, -1);
        execute(m);
        return (int) -cost;
    }

    public int place(int t, int market, int outcome, int count, int limit) {
        if (t < 0 || t > 5 || count < 1 || count > 50 || limit < 1 || limit > 2880) {
            return BAD_ARGUMENT;
        }
        if (!isOutcome(market, outcome)) {
            return NONE;
        }
        Mart m = all.marts.get(market);
        if (m.state != 0) {
            return STATE;
        }
        if (all.bids.size() == 16) {
            return FULL;
        }
        Bid b = new Bid();
        b.number = all.placed++;
        b.trader = t;
        b.market = market;
        b.outcome = outcome;
        b.left = count;
        b.limit = limit;
        all.bids.add(b);
        execute(m);
        return b.number;
    }

    private Bid bid(int number) {
        for (Bid b : all.bids) {
            if (b.number == number) {
                return b;
            }
        }
        return null;
    }

    public int cancel(int order) {
        Bid b = bid(order);
        if (b == null) {
            return NONE;
        }
        all.bids.remove(b);
        return b.left;
    }

    public int order(int order, int what) {
        Bid b = bid(order);
        if (b == null) {
            return NONE;
        }
        return switch (what) {
            case 0 -> b.trader;
            case 1 -> b.market;
            case 2 -> b.outcome;
            case 3 -> b.left;
            case 4 -> b.limit;
            case 5 -> why(b);
            default -> BAD_ARGUMENT;
        };
    }

    public int waiting(int market, int position) {
        List<Bid> here = new ArrayList<>();
        for (Bid b : all.bids) {
            if (b.market == market) {
                here.add(b);
            }
        }
        here.sort(Comparator.<Bid>comparingInt(b -> -b.limit).thenComparingInt(b -> b.number));
        return position < 0 || position >= here.size() ? NONE : here.get(position).number;
    }

    public int tick(int count) {
        if (count < 1 || count > 100) {
            return BAD_ARGUMENT;
        }
        for (int i = 0; i < count; i++) {
            all.time++;
            List<Mart> order = new ArrayList<>(all.marts);
            order.sort(Comparator.<Mart>comparingInt(m -> m.expiry).thenComparingInt(m -> m.number));
            for (Mart m : order) {
                if (m.state == 0 && m.expiry <= all.time) {
                    m.state = 1;
                    all.bids.removeIf(b -> b.market == m.number);
                }
            }
            for (Mart m : order) {
                if (m.state == 1 && m.expiry + 10 <= all.time) {
                    makeVoid(m, 2);
                }
            }
        }
        return all.time;
    }

    private int makeVoid(Mart m, int reason) {
        all.bids.removeIf(b -> b.market == m.number);
        for (int t = 0; t < 6; t++) {
            all.balance[t] += m.paid[t];
            m.account -= m.paid[t];
        }
        m.state = 3;
        m.reason = reason;
        int number = 1;
        for (Mart other : all.marts) {
            if (other.condition == m.number && live(other)) {
                number += makeVoid(other, 3);
            }
        }
        return number;
    }

    public int settle(int market, int outcome) {
        if (!isOutcome(market, outcome)) {
            return NONE;
        }
        Mart m = all.marts.get(market);
        if (m.state != 1 || m.condition >= 0 && all.marts.get(m.condition).state != 2) {
            return STATE;
        }
        int total = 2880 * m.q()[outcome];
        for (int t = 0; t < 6; t++) {
            all.balance[t] += 2880L * m.holdingOf(t)[outcome];
        }
        m.account -= total;
        m.state = 2;
        m.winner = outcome;
        for (Mart other : all.marts) {
            if (other.condition == market && other.conditionOutcome != outcome && live(other)) {
                makeVoid(other, 4);
            }
        }
        return total;
    }

    public int cancelMarket(int market) {
        if (!isMart(market)) {
            return NONE;
        }
        Mart m = all.marts.get(market);
        return live(m) ? makeVoid(m, 1) : STATE;
    }

    public int market(int market, int what) {
        if (!isMart(market)) {
            return NONE;
        }
        Mart m = all.marts.get(market);
        int most = 0;
        for (int q : m.q()) {
            most = Math.max(most, q);
        }
        return switch (what) {
            case 0 -> m.state;
            case 1 -> m.b;
            case 2 -> m.n;
            case 3 -> m.expiry;
            case 4 -> m.condition;
            case 5 -> m.conditionOutcome;
            case 6 -> (int) m.account;
            case 7 -> (int) m.exact(2880L * m.b * (m.n - 1), m.n);
            case 8 -> (int) m.level(m.q());
            case 9 -> m.winner;
            case 10 -> m.active(m.q()).size();
            case 11 -> (int) (2880L * most - m.account);
            default -> BAD_ARGUMENT;
        };
    }

    public int price(int market, int outcome) {
        if (!isOutcome(market, outcome)) {
            return NONE;
        }
        Mart m = all.marts.get(market);
        return (int) m.price(m.q(), outcome);
    }

    public int sharesFor(int market, int outcome, int units) {
        if (!isOutcome(market, outcome)) {
            return NONE;
        }
        if (units < 1 || units > 2880) {
            return BAD_ARGUMENT;
        }
        Mart m = all.marts.get(market);
        int[] q = m.q();
        int answer = FULL;
        for (int number = 400 - q[outcome]; number >= 0; number--) {
            int[] more = q.clone();
            more[outcome] += number;
            if (m.price(more, outcome) >= units) {
                answer = number;
            }
        }
        return answer;
    }

    public int voidReason(int market, int level) {
        if (!isMart(market) || level < 0) {
            return NONE;
        }
        Mart m = all.marts.get(market);
        if (m.state != 3) {
            return NONE;
        }
        if (level == 0) {
            return m.reason;
        }
        return m.reason == 3 ? voidReason(m.condition, level - 1) : NONE;
    }

    public int shares(int market, int outcome) {
        return isOutcome(market, outcome) ? all.marts.get(market).q()[outcome] : NONE;
    }

    public int holding(int t, int market, int outcome) {
        if (t < 0 || t > 5 || !isOutcome(market, outcome)) {
            return NONE;
        }
        return all.marts.get(market).holdingOf(t)[outcome];
    }

    public int trader(int t, int what) {
        if (t < 0 || t > 5 || what < 0 || what > 3) {
            return BAD_ARGUMENT;
        }
        long worth = 0;
        int coins = 0;
        for (Mart m : all.marts) {
            if (live(m)) {
                int most = 0;
                for (int i = 0; i < m.n; i++) {
                    worth += m.holdingOf(t)[i] * m.price(m.q(), i);
                    most = Math.max(most, m.holdingOf(t)[i]);
                }
                coins += most;
            }
        }
        int bids = 0;
        for (Bid b : all.bids) {
            bids += b.trader == t ? 1 : 0;
        }
        return (int) new long[] {all.balance[t], worth, bids, coins}[what];
    }

    public int paid(int t, int market) {
        return t < 0 || t > 5 || !isMart(market) ? NONE : (int) all.marts.get(market).paid[t];
    }

    public int affordable(int t, int market, int outcome) {
        if (t < 0 || t > 5 || !isOutcome(market, outcome)) {
            return NONE;
        }
        Mart m = all.marts.get(market);
        int most = 0;
        for (int number = 1; number <= 50; number++) {
            if (m.q()[outcome] + number <= 400 && m.cost(1 << outcome, number) <= all.balance[t]) {
                most = number;
            }
        }
        return most;
    }

    public int history(int index, int what) {
        int size = all.trades.size();
        if (index < 0 || index >= Math.min(30, size)) {
            return NONE;
        }
        return all.trades.get(size - 1 - index).part(what);
    }

    public int count(int what) {
        long balances = 0;
        for (long b : all.balance) {
            balances += b;
        }
        long accounts = 0;
        int open = 0;
        for (Mart m : all.marts) {
            accounts += m.account;
            open += m.state == 0 ? 1 : 0;
        }
        return (int) switch (what) {
            case 0 -> all.marts.size();
            case 1 -> open;
            case 2 -> all.bids.size();
            case 3 -> all.time;
            case 4 -> all.trades.size();
            case 5 -> text.length();
            case 6 -> balances;
            case 7 -> accounts;
            default -> BAD_ARGUMENT;
        };
    }

    public int append(int code, int count) {
        if (code < 0 || code > 127 || count < 1 || count > 60) {
            return BAD_ARGUMENT;
        }
        if (text.length() + count > 60) {
            return FULL;
        }
        text += Character.toString(code).repeat(count);
        return text.length();
    }

    /** Whether the characters can be continued to a list of trades. */
    private static boolean canStart(String part) {
        String[] shapes = {"", "[0-5]", "[0-5][+-]", "[0-5][+-][1-9]", "[0-5][+-][1-9][0-9]",
            "[0-5][+-][1-9][0-9]?m", "[0-5][+-][1-9][0-9]?m[0-5]", "[0-5][+-][1-9][0-9]?m[0-5][.]",
            "[0-5][+-][1-9][0-9]?m[0-5][.][0-3]"};
        for (String shape : shapes) {
            if (part.matches("([0-5][+-][1-9][0-9]?m[0-5][.][0-3];)*" + shape)) {
                return true;
            }
        }
        return false;
    }

    public int trade() {
        String list = text;
        text = "";
        for (int i = 0; i < list.length(); i++) {
            if (!canStart(list.substring(0, i + 1))) {
                return -2000 - i;
            }
        }
        if (!list.matches("([0-5][+-][1-9][0-9]?m[0-5][.][0-3];)*[0-5][+-][1-9][0-9]?m[0-5][.][0-3]")) {
            return -2000 - list.length();
        }
        int done = 0;
        for (String one : list.split(";")) {
            int letter = one.indexOf('m');
            int t = one.charAt(0) - '0';
            int number = Integer.parseInt(one.substring(2, letter));
            int market = one.charAt(letter + 1) - '0';
            int outcome = one.charAt(letter + 3) - '0';
            boolean buying = one.charAt(1) == '+';
            int answer = buying ? buy(t, market, outcome, number) : sell(t, market, outcome, number);
            if (answer <= NONE) {
                break;
            }
            done++;
        }
        return done;
    }

    public int save() {
        snapshot = all.copy();
        return all.marts.size();
    }

    public int restore() {
        if (snapshot == null) {
            return NONE;
        }
        all = snapshot.copy();
        return all.marts.size();
    }
}
