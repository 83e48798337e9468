/**
 * A maker of prediction markets: it sells and buys back shares in outcomes at exact prices by a
 * quadratic rule, keeps limit orders, links markets to outcomes of others, settles or voids
 * markets after they expire, and never loses more than a bound.
 *
 * <p>Everything is made by the constructor; no other call makes an object or an array.
 */
public final class PredictionMaker {
    public static final int NONE = -1000000001;
    public static final int BAD_ARGUMENT = -1000000002;
    public static final int FULL = -1000000003;
    public static final int STATE = -1000000004;
    public static final int NOT_ENOUGH = -1000000005;

    private static final int TRADERS = 6;
    private static final int MARKETS = 6;
    private static final int LEAST_OUTCOMES = 2;
    private static final int OUTCOMES = 4;
    private static final int ORDERS = 16;
    private static final int KEPT_TRADES = 30;
    private static final int TRADE_PARTS = 6;
    private static final int TEXT_LENGTH = 60;

    private static final int COIN = 2880;
    private static final int LIQUIDITIES = 60;
    private static final int MOST_SHARES = 400;
    private static final int MOST_COUNT = 50;
    private static final int MOST_COINS = 500;
    private static final int MOST_BALANCE = 5000000;
    private static final int MOST_TICKS = 100;
    private static final int LATEST_EXPIRY = 999;
    private static final int TICKS_TO_SETTLE = 10;
    private static final int HIGHEST_CODE = 127;
    private static final int SYNTAX_ERROR = -2000;

    private static final int OPEN = 0;
    private static final int EXPIRED = 1;
    private static final int SETTLED = 2;
    private static final int VOID = 3;

    private static final int NO_REASON = 0;
    private static final int CANCELLED = 1;
    private static final int NOT_SETTLED_IN_TIME = 2;
    private static final int CONDITION_VOID = 3;
    private static final int OTHER_OUTCOME = 4;

    private static final int EXECUTABLE = 0;
    private static final int ABOVE_LIMIT = 1;
    private static final int ABOVE_BALANCE = 2;
    private static final int NO_MORE_SHARES = 3;

    /** Stands for a condition, a winner, an order or an offset that is not there. */
    private static final int ABSENT = -1;

    private final Exchange now;
    private final Exchange saved;
    private final TradeText text;
    private boolean hasSnapshot;

    public PredictionMaker() {
        now = new Exchange();
        saved = new Exchange();
        text = new TradeText();
    }

    public int openMarket(int liquidity, int outcomes, int expiry) {
        if (!canOpen(liquidity, outcomes, expiry)) {
            return BAD_ARGUMENT;
        }
        return now.addMarket(liquidity, outcomes, expiry, ABSENT, ABSENT);
    }

    public int openLinked(int liquidity, int outcomes, int expiry, int market, int outcome) {
        if (!canOpen(liquidity, outcomes, expiry)) {
            return BAD_ARGUMENT;
        }
        Market condition = now.marketWith(market, outcome);
        if (condition == null) {
            return NONE;
        }
        if (!condition.isLive()) {
            return STATE;
        }
        return now.addMarket(liquidity, outcomes, expiry, market, outcome);
    }

    public int deposit(int trader, int coins) {
        if (!isTrader(trader) || !isBetween(coins, 1, MOST_COINS)) {
            return BAD_ARGUMENT;
        }
        int balance = now.balances[trader] + coins * COIN;
        if (balance > MOST_BALANCE) {
            return FULL;
        }
        now.balances[trader] = balance;
        now.executeAllOrders();
        return balance;
    }

    public int withdraw(int trader, int units) {
        if (!isTrader(trader) || !isBetween(units, 1, MOST_BALANCE)) {
            return BAD_ARGUMENT;
        }
        if (now.balances[trader] < units) {
            return NOT_ENOUGH;
        }
        now.balances[trader] -= units;
        return now.balances[trader];
    }

    public int cost(int market, int outcome, int count) {
        Market asked = now.marketWith(market, outcome);
        if (asked == null) {
            return NONE;
        }
        if (count == 0 || !isBetween(count, -MOST_COUNT, MOST_COUNT)) {
            return BAD_ARGUMENT;
        }
        if (!asked.canHave(outcome, count)) {
            return FULL;
        }
        return asked.costOf(outcome, count);
    }

    public int buy(int trader, int market, int outcome, int count) {
        if (!isTrader(trader) || !isBetween(count, 1, MOST_COUNT)) {
            return BAD_ARGUMENT;
        }
        Market chosen = now.marketWith(market, outcome);
        if (chosen == null) {
            return NONE;
        }
        if (chosen.state != OPEN) {
            return STATE;
        }
        if (!chosen.canHave(outcome, count)) {
            return FULL;
        }
        int due = chosen.costOf(outcome, count);
        if (due > now.balances[trader]) {
            return NOT_ENOUGH;
        }
        now.exchange(chosen, trader, outcome, count, ABSENT);
        now.executeOrders(chosen);
        return due;
    }

    public int buySet(int trader, int market, int set, int count) {
        if (!isTrader(trader) || !isBetween(count, 1, MOST_COUNT)) {
            return BAD_ARGUMENT;
        }
        Market chosen = now.marketAt(market);
        if (chosen == null) {
            return NONE;
        }
        if (!chosen.hasSet(set)) {
            return BAD_ARGUMENT;
        }
        if (chosen.state != OPEN) {
            return STATE;
        }
        if (!chosen.canHaveSet(set, count)) {
            return FULL;
        }
        int due = chosen.costOfSet(set, count);
        if (due > now.balances[trader]) {
            return NOT_ENOUGH;
        }
        now.exchangeSet(chosen, trader, set, count);
        now.executeOrders(chosen);
        return due;
    }

    public int sell(int trader, int market, int outcome, int count) {
        if (!isTrader(trader) || !isBetween(count, 1, MOST_COUNT)) {
            return BAD_ARGUMENT;
        }
        Market chosen = now.marketWith(market, outcome);
        if (chosen == null) {
            return NONE;
        }
        if (chosen.state != OPEN) {
            return STATE;
        }
        if (chosen.held[trader][outcome] < count) {
            return NOT_ENOUGH;
        }
        int due = now.exchange(chosen, trader, outcome, -count, ABSENT);
        now.executeOrders(chosen);
        return -due;
    }

    public int place(int trader, int market, int outcome, int count, int limit) {
        if (!isTrader(trader) || !isBetween(count, 1, MOST_COUNT) || !isBetween(limit, 1, COIN)) {
            return BAD_ARGUMENT;
        }
        Market chosen = now.marketWith(market, outcome);
        if (chosen == null) {
            return NONE;
        }
        if (chosen.state != OPEN) {
            return STATE;
        }
        int number = now.book.insert(trader, market, outcome, count, limit);
        if (number != FULL) {
            now.executeOrders(chosen);
        }
        return number;
    }

    public int cancel(int order) {
        int position = now.book.positionOf(order);
        if (position == ABSENT) {
            return NONE;
        }
        int left = now.book.orders[position].left;
        now.book.remove(position);
        return left;
    }

    public int order(int order, int what) {
        int position = now.book.positionOf(order);
        if (position == ABSENT) {
            return NONE;
        }
        Order asked = now.book.orders[position];
        switch (what) {
            case 0:
                return asked.trader;
            case 1:
                return asked.market;
            case 2:
                return asked.outcome;
            case 3:
                return asked.left;
            case 4:
                return asked.limit;
            case 5:
                return now.obstacleOf(asked);
            default:
                return BAD_ARGUMENT;
        }
    }

    public int waiting(int market, int position) {
        if (now.marketAt(market) == null || position < 0) {
            return NONE;
        }
        int before = 0;
        for (int i = 0; i < now.book.open; i++) {
            Order order = now.book.orders[i];
            if (order.market == market) {
                if (before == position) {
                    return order.number;
                }
                before++;
            }
        }
        return NONE;
    }

    public int tick(int count) {
        if (!isBetween(count, 1, MOST_TICKS)) {
            return BAD_ARGUMENT;
        }
        for (int i = 0; i < count; i++) {
            now.passTick();
        }
        return now.time;
    }

    public int settle(int market, int outcome) {
        Market chosen = now.marketWith(market, outcome);
        if (chosen == null) {
            return NONE;
        }
        if (chosen.state != EXPIRED || now.waitsForCondition(chosen)) {
            return STATE;
        }
        int payment = now.payWinners(chosen, outcome);
        now.voidFollowers();
        return payment;
    }

    public int cancelMarket(int market) {
        Market chosen = now.marketAt(market);
        if (chosen == null) {
            return NONE;
        }
        if (!chosen.isLive()) {
            return STATE;
        }
        now.makeVoid(chosen, CANCELLED);
        return 1 + now.voidFollowers();
    }

    public int market(int market, int what) {
        Market asked = now.marketAt(market);
        if (asked == null) {
            return NONE;
        }
        return asked.property(what);
    }

    public int price(int market, int outcome) {
        Market asked = now.marketWith(market, outcome);
        if (asked == null) {
            return NONE;
        }
        return asked.priceWith(outcome, 0);
    }

    public int sharesFor(int market, int outcome, int units) {
        Market asked = now.marketWith(market, outcome);
        if (asked == null) {
            return NONE;
        }
        if (!isBetween(units, 1, COIN)) {
            return BAD_ARGUMENT;
        }
        for (int extra = 0; extra <= MOST_SHARES && asked.canHave(outcome, extra); extra++) {
            if (asked.priceWith(outcome, extra) >= units) {
                return extra;
            }
        }
        return FULL;
    }

    public int voidReason(int market, int level) {
        int number = market;
        for (int passed = 0; passed < MARKETS; passed++) {
            Market explained = now.marketAt(number);
            if (explained == null || explained.state != VOID) {
                return NONE;
            }
            if (passed == level) {
                return explained.reason;
            }
            if (explained.reason != CONDITION_VOID) {
                return NONE;
            }
            number = explained.conditionMarket;
        }
        return NONE;
    }

    public int shares(int market, int outcome) {
        Market asked = now.marketWith(market, outcome);
        if (asked == null) {
            return NONE;
        }
        return asked.shares[outcome];
    }

    public int holding(int trader, int market, int outcome) {
        Market asked = now.marketWith(market, outcome);
        if (asked == null || !isTrader(trader)) {
            return NONE;
        }
        return asked.held[trader][outcome];
    }

    public int trader(int trader, int what) {
        if (!isTrader(trader)) {
            return BAD_ARGUMENT;
        }
        switch (what) {
            case 0:
                return now.balances[trader];
            case 1:
                return now.worthOf(trader);
            case 2:
                return now.book.openOf(trader);
            case 3:
                return now.mostCoinsOf(trader);
            default:
                return BAD_ARGUMENT;
        }
    }

    public int paid(int trader, int market) {
        Market asked = now.marketAt(market);
        if (asked == null || !isTrader(trader)) {
            return NONE;
        }
        return asked.paidBy[trader];
    }

    public int affordable(int trader, int market, int outcome) {
        Market asked = now.marketWith(market, outcome);
        if (asked == null || !isTrader(trader)) {
            return NONE;
        }
        int balance = now.balances[trader];
        // A further share never costs less than nothing: the first one too many ends the search.
        for (int number = 1; number <= MOST_COUNT; number++) {
            if (!asked.canHave(outcome, number) || asked.costOf(outcome, number) > balance) {
                return number - 1;
            }
        }
        return MOST_COUNT;
    }

    public int history(int index, int what) {
        if (!now.history.keeps(index)) {
            return NONE;
        }
        if (!isBetween(what, 0, TRADE_PARTS - 1)) {
            return BAD_ARGUMENT;
        }
        return now.history.partOf(index, what);
    }

    public int count(int what) {
        switch (what) {
            case 0:
                return now.marketCount;
            case 1:
                return now.openMarkets();
            case 2:
                return now.book.open;
            case 3:
                return now.time;
            case 4:
                return now.history.total;
            case 5:
                return text.length;
            case 6:
                return now.sumOfBalances();
            case 7:
                return now.sumOfAccounts();
            default:
                return BAD_ARGUMENT;
        }
    }

    public int append(int code, int count) {
        if (!isBetween(code, 0, HIGHEST_CODE) || !isBetween(count, 1, TEXT_LENGTH)) {
            return BAD_ARGUMENT;
        }
        return text.add((char) code, count);
    }

    public int trade() {
        int error = text.errorOffset();
        int end = error == ABSENT ? text.length : 0;
        int next = 0;
        int done = 0;
        while (next < end && done < TEXT_LENGTH) {
            next = text.readTrade(next);
            int answer = text.selling
                    ? sell(text.trader, text.market, text.outcome, text.number)
                    : buy(text.trader, text.market, text.outcome, text.number);
            if (isRefusal(answer)) {
                break;
            }
            done++;
        }
        text.length = 0;
        return error == ABSENT ? done : SYNTAX_ERROR - error;
    }

    public int save() {
        saved.copyFrom(now);
        hasSnapshot = true;
        return now.marketCount;
    }

    public int restore() {
        if (!hasSnapshot) {
            return NONE;
        }
        now.copyFrom(saved);
        return now.marketCount;
    }

    private boolean canOpen(int liquidity, int outcomes, int expiry) {
        return isBetween(liquidity, 1, LIQUIDITIES)
                && LIQUIDITIES % liquidity == 0
                && isBetween(outcomes, LEAST_OUTCOMES, OUTCOMES)
                && isBetween(expiry, now.time + 1, LATEST_EXPIRY);
    }

    private static boolean isTrader(int trader) {
        return isBetween(trader, 0, TRADERS - 1);
    }

    private static boolean isRefusal(int answer) {
        return isBetween(answer, NOT_ENOUGH, NONE);
    }

    private static boolean isIn(int set, int outcome) {
        return (set >> outcome & 1) == 1;
    }

    private static boolean isBetween(int value, int least, int most) {
        return value >= least && value <= most;
    }

    /** All that a snapshot holds: the traders, the markets, the orders, the trades and the time. */
    private static final class Exchange {
        final int[] balances;
        /** A slot is blank until its market opens; copyFrom keeps it so by copying blank slots. */
        final Market[] markets;
        final Book book;
        final History history;
        int marketCount;
        int time;

        Exchange() {
            balances = new int[TRADERS];
            markets = new Market[MARKETS];
            for (int i = 0; i < MARKETS; i++) {
                markets[i] = new Market(i);
            }
            book = new Book();
            history = new History();
        }

        void copyFrom(Exchange other) {
            System.arraycopy(other.balances, 0, balances, 0, TRADERS);
            for (int i = 0; i < MARKETS; i++) {
                markets[i].copyFrom(other.markets[i]);
            }
            book.copyFrom(other.book);
            history.copyFrom(other.history);
            marketCount = other.marketCount;
            time = other.time;
        }

        /** The market with this number, or null if there is none. */
        Market marketAt(int number) {
            return number >= 0 && number < marketCount && number < MARKETS ? markets[number] : null;
        }

        /** The market with this number, or null if there is none or it has no such outcome. */
        Market marketWith(int number, int outcome) {
            Market found = marketAt(number);
            return found != null && outcome >= 0 && outcome < found.outcomes ? found : null;
        }

        int addMarket(int liquidity, int outcomes, int expiry, int condition, int outcome) {
            if (marketCount >= MARKETS) {
                return FULL;
            }
            Market added = markets[marketCount];
            added.liquidity = liquidity;
            added.outcomes = outcomes;
            added.expiry = expiry;
            added.conditionMarket = condition;
            added.conditionOutcome = outcome;
            marketCount++;
            return added.number;
        }

        /** Lets the trader buy count shares, or sell if it is negative, and answers the cost. */
        int exchange(Market market, int trader, int outcome, int count, int order) {
            int due = market.costOf(outcome, count);
            balances[trader] -= due;
            market.account += due;
            market.paidBy[trader] += due;
            market.held[trader][outcome] += count;
            market.shares[outcome] += count;
            history.add(trader, market.number, outcome, count, due, order);
            return due;
        }

        void exchangeSet(Market market, int trader, int set, int count) {
            for (int i = 0; i < market.outcomes; i++) {
                if (isIn(set, i)) {
                    exchange(market, trader, i, count, ABSENT);
                }
            }
        }

        void executeAllOrders() {
            for (int i = 0; i < marketCount; i++) {
                executeOrders(markets[i]);
            }
        }

        void executeOrders(Market market) {
            for (int bought = 0; bought < ORDERS * MOST_COUNT; bought++) {
                int position = firstExecutable(market);
                if (position == ABSENT) {
                    return;
                }
                Order order = book.orders[position];
                exchange(market, order.trader, order.outcome, 1, order.number);
                order.left--;
                if (order.left == 0) {
                    book.remove(position);
                }
            }
        }

        /** The position in the book of the order that is next in this market, or ABSENT. */
        private int firstExecutable(Market market) {
            for (int i = 0; i < book.open; i++) {
                Order order = book.orders[i];
                if (order.market == market.number) {
                    int due = market.costOf(order.outcome, 1);
                    if (obstacle(order, due, market.shares[order.outcome]) == EXECUTABLE) {
                        return i;
                    }
                }
            }
            return ABSENT;
        }

        int obstacleOf(Order order) {
            Market market = marketWith(order.market, order.outcome);
            if (market == null) {
                return NONE;
            }
            // At 400 shares the rule still tells what one more would cost.
            int due = market.costOf(order.outcome, 1);
            return obstacle(order, due, market.shares[order.outcome]);
        }

        /** Why the order cannot be executed, with what one share would cost and those there are. */
        private int obstacle(Order order, int due, int shares) {
            if (due > order.limit) {
                return ABOVE_LIMIT;
            }
            if (due > balances[order.trader]) {
                return ABOVE_BALANCE;
            }
            return shares < MOST_SHARES ? EXECUTABLE : NO_MORE_SHARES;
        }

        /**
         * Lets one tick pass. What expires at the same tick has the same expiry, since an expiry
         * lies in the future when it is set: so the order of the numbers is that of the expiries.
         */
        void passTick() {
            time++;
            for (int i = 0; i < marketCount; i++) {
                Market market = markets[i];
                if (market.state == OPEN && market.expiry <= time) {
                    market.state = EXPIRED;
                    book.removeAll(i);
                }
            }
            for (int i = 0; i < marketCount; i++) {
                Market market = markets[i];
                if (market.state == EXPIRED && market.expiry + TICKS_TO_SETTLE <= time) {
                    makeVoid(market, NOT_SETTLED_IN_TIME);
                    voidFollowers();
                }
            }
        }

        boolean waitsForCondition(Market market) {
            Market condition = marketAt(market.conditionMarket);
            return condition != null && condition.state != SETTLED;
        }

        int payWinners(Market market, int outcome) {
            int payment = 0;
            for (int i = 0; i < TRADERS; i++) {
                int gain = COIN * market.held[i][outcome];
                balances[i] += gain;
                payment += gain;
            }
            market.account -= payment;
            market.state = SETTLED;
            market.winner = outcome;
            return payment;
        }

        void makeVoid(Market market, int reason) {
            book.removeAll(market.number);
            for (int i = 0; i < TRADERS; i++) {
                balances[i] += market.paidBy[i];
                market.account -= market.paidBy[i];
            }
            market.state = VOID;
            market.reason = reason;
        }

        /**
         * Makes the markets void whose condition cannot hold any more and answers their number.
         * A condition has the lower number, so one pass upwards meets each after its condition;
         * going down from each market first would lead to the same, as paying back adds up.
         */
        int voidFollowers() {
            int followers = 0;
            for (int i = 0; i < marketCount; i++) {
                Market market = markets[i];
                int reason = market.isLive() ? reasonByCondition(market) : NO_REASON;
                if (reason != NO_REASON) {
                    makeVoid(market, reason);
                    followers++;
                }
            }
            return followers;
        }

        private int reasonByCondition(Market market) {
            Market condition = marketAt(market.conditionMarket);
            if (condition == null) {
                return NO_REASON;
            }
            if (condition.state == VOID) {
                return CONDITION_VOID;
            }
            if (condition.state == SETTLED && condition.winner != market.conditionOutcome) {
                return OTHER_OUTCOME;
            }
            return NO_REASON;
        }

        int worthOf(int trader) {
            int worth = 0;
            for (int i = 0; i < marketCount; i++) {
                if (markets[i].isLive()) {
                    worth += markets[i].worthOf(trader);
                }
            }
            return worth;
        }

        int mostCoinsOf(int trader) {
            int coins = 0;
            for (int i = 0; i < marketCount; i++) {
                if (markets[i].isLive()) {
                    coins += markets[i].mostHeldBy(trader);
                }
            }
            return coins;
        }

        int openMarkets() {
            int open = 0;
            for (int i = 0; i < marketCount; i++) {
                if (markets[i].state == OPEN) {
                    open++;
                }
            }
            return open;
        }

        int sumOfBalances() {
            int sum = 0;
            for (int i = 0; i < TRADERS; i++) {
                sum += balances[i];
            }
            return sum;
        }

        int sumOfAccounts() {
            int sum = 0;
            for (int i = 0; i < marketCount; i++) {
                sum += markets[i].account;
            }
            return sum;
        }
    }

    /** A market and the quadratic rule by which its shares cost. */
    private static final class Market {
        final int number;
        final int[] shares;
        /** The shares of each trader, by trader and outcome. */
        final int[][] held;
        final int[] paidBy;
        int liquidity;
        int outcomes;
        int expiry;
        int conditionMarket;
        int conditionOutcome;
        int state;
        int winner;
        int reason;
        int account;
        /** The active outcomes as measure found them: their number, sum, and sum of squares. */
        private int active;
        private int activeSum;
        private int activeSquares;

        Market(int number) {
            this.number = number;
            shares = new int[OUTCOMES];
            held = new int[TRADERS][OUTCOMES];
            paidBy = new int[TRADERS];
            liquidity = 1;
            conditionMarket = ABSENT;
            conditionOutcome = ABSENT;
            winner = ABSENT;
        }

        void copyFrom(Market other) {
            System.arraycopy(other.shares, 0, shares, 0, OUTCOMES);
            for (int i = 0; i < TRADERS; i++) {
                System.arraycopy(other.held[i], 0, held[i], 0, OUTCOMES);
            }
            System.arraycopy(other.paidBy, 0, paidBy, 0, TRADERS);
            liquidity = other.liquidity;
            outcomes = other.outcomes;
            expiry = other.expiry;
            conditionMarket = other.conditionMarket;
            conditionOutcome = other.conditionOutcome;
            state = other.state;
            winner = other.winner;
            reason = other.reason;
            account = other.account;
        }

        /** Open or expired: neither settled nor void. */
        boolean isLive() {
            return state == OPEN || state == EXPIRED;
        }

        int property(int what) {
            switch (what) {
                case 0:
                    return state;
                case 1:
                    return liquidity;
                case 2:
                    return outcomes;
                case 3:
                    return expiry;
                case 4:
                    return conditionMarket;
                case 5:
                    return conditionOutcome;
                case 6:
                    return account;
                case 7:
                    return lossBound();
                case 8:
                    return level();
                case 9:
                    return winner;
                case 10:
                    measure();
                    return active;
                case 11:
                    return COIN * mostShares() - account;
                default:
                    return BAD_ARGUMENT;
            }
        }

        private int lossBound() {
            return outcomes == 0 ? 0 : COIN * liquidity * (outcomes - 1) / outcomes;
        }

        private int mostShares() {
            int most = 0;
            for (int i = 0; i < outcomes; i++) {
                most = Math.max(most, shares[i]);
            }
            return most;
        }

        /**
         * Finds the active outcomes. An outcome is active if those with more shares have together
         * less than 2 * liquidity more than it: that is what the ranks of the document come to,
         * as q * k > sum - 2 * liquidity with k outcomes before it says the same.
         */
        private void measure() {
            active = 0;
            activeSum = 0;
            activeSquares = 0;
            for (int i = 0; i < outcomes; i++) {
                int above = 0;
                for (int j = 0; j < outcomes; j++) {
                    if (shares[j] > shares[i]) {
                        above += shares[j] - shares[i];
                    }
                }
                if (above < 2 * liquidity) {
                    active++;
                    activeSum += shares[i];
                    activeSquares += shares[i] * shares[i];
                }
            }
        }

        private int level() {
            measure();
            if (active == 0 || liquidity == 0) {
                return 0;
            }
            int rest = activeSum - 2 * liquidity;
            return 60 / liquidity * (12 * activeSquares - 12 / active * rest * rest);
        }

        /** The cost of count shares more, or less if it is negative. */
        int costOf(int outcome, int count) {
            int before = level();
            shares[outcome] += count;
            int after = level();
            shares[outcome] -= count;
            return after - before;
        }

        int costOfSet(int set, int count) {
            int before = level();
            addSet(set, count);
            int after = level();
            addSet(set, -count);
            return after - before;
        }

        private void addSet(int set, int count) {
            for (int i = 0; i < outcomes; i++) {
                if (isIn(set, i)) {
                    shares[i] += count;
                }
            }
        }

        /** The price that the outcome would have with more shares of it. */
        int priceWith(int outcome, int extra) {
            shares[outcome] += extra;
            measure();
            int own = 12 * shares[outcome];
            shares[outcome] -= extra;
            if (active == 0 || liquidity == 0) {
                return 0;
            }
            // The formula is positive for the active outcomes alone.
            return Math.max(0, 120 / liquidity * (own - 12 / active * (activeSum - 2 * liquidity)));
        }

        boolean canHave(int outcome, int more) {
            return isBetween(shares[outcome] + more, 0, MOST_SHARES);
        }

        boolean canHaveSet(int set, int more) {
            for (int i = 0; i < outcomes; i++) {
                if (isIn(set, i) && !canHave(i, more)) {
                    return false;
                }
            }
            return true;
        }

        /** Whether the set is not empty and holds outcomes of this market alone. */
        boolean hasSet(int set) {
            return isBetween(set, 1, (1 << outcomes) - 1);
        }

        int worthOf(int trader) {
            int worth = 0;
            for (int i = 0; i < outcomes; i++) {
                worth += held[trader][i] * priceWith(i, 0);
            }
            return worth;
        }

        int mostHeldBy(int trader) {
            int most = 0;
            for (int i = 0; i < outcomes; i++) {
                most = Math.max(most, held[trader][i]);
            }
            return most;
        }
    }

    /** An open order, or a blank one that waits in the book to be used. */
    private static final class Order {
        int number;
        int trader;
        int market;
        int outcome;
        int left;
        int limit;

        void copyFrom(Order other) {
            number = other.number;
            trader = other.trader;
            market = other.market;
            outcome = other.outcome;
            left = other.left;
            limit = other.limit;
        }
    }

    /** The open orders of all markets. */
    private static final class Book {
        /** The open ones first, in the order in which they are tried; then the blank ones. */
        final Order[] orders;
        int open;
        private int placed;

        Book() {
            orders = new Order[ORDERS];
            for (int i = 0; i < ORDERS; i++) {
                orders[i] = new Order();
            }
        }

        void copyFrom(Book other) {
            for (int i = 0; i < ORDERS; i++) {
                orders[i].copyFrom(other.orders[i]);
            }
            open = other.open;
            placed = other.placed;
        }

        /** Puts an order behind those with at least its limit; its number, or FULL. */
        int insert(int trader, int market, int outcome, int count, int limit) {
            if (open >= ORDERS) {
                return FULL;
            }
            Order added = orders[open];
            int position = open;
            while (position > 0 && orders[position - 1].limit < limit) {
                orders[position] = orders[position - 1];
                position--;
            }
            orders[position] = added;
            added.number = placed;
            added.trader = trader;
            added.market = market;
            added.outcome = outcome;
            added.left = count;
            added.limit = limit;
            open++;
            placed++;
            return added.number;
        }

        int positionOf(int number) {
            for (int i = 0; i < open; i++) {
                if (orders[i].number == number) {
                    return i;
                }
            }
            return ABSENT;
        }

        void remove(int position) {
            if (position < 0 || position >= open) {
                return;
            }
            Order removed = orders[position];
            for (int i = position + 1; i < open; i++) {
                orders[i - 1] = orders[i];
            }
            open--;
            orders[open] = removed;
        }

        void removeAll(int market) {
            for (int i = open - 1; i >= 0; i--) {
                if (orders[i].market == market) {
                    remove(i);
                }
            }
        }

        int openOf(int trader) {
            int found = 0;
            for (int i = 0; i < open; i++) {
                if (orders[i].trader == trader) {
                    found++;
                }
            }
            return found;
        }
    }

    /** The latest trades, and the number of all. */
    private static final class History {
        /** A row a trade, used in turn; its parts stand as the public history tells them. */
        private final int[][] rows;
        int total;

        History() {
            rows = new int[KEPT_TRADES][TRADE_PARTS];
        }

        void copyFrom(History other) {
            for (int i = 0; i < KEPT_TRADES; i++) {
                System.arraycopy(other.rows[i], 0, rows[i], 0, TRADE_PARTS);
            }
            total = other.total;
        }

        void add(int trader, int market, int outcome, int count, int due, int order) {
            int[] row = rows[Math.floorMod(total, KEPT_TRADES)];
            row[0] = trader;
            row[1] = market;
            row[2] = outcome;
            row[3] = count;
            row[4] = due;
            row[5] = order;
            total++;
        }

        boolean keeps(int index) {
            return index >= 0 && index < total && index < KEPT_TRADES;
        }

        int partOf(int index, int what) {
            return rows[Math.floorMod(total - 1 - index, KEPT_TRADES)][what];
        }
    }

    /** The text, the grammar of its trades, and the trade that was read last. */
    private static final class TradeText {
        private static final int WRONG = -1;
        private static final int AT_TRADER = 0;
        private static final int AT_SIGN = 1;
        private static final int AT_FIRST_DIGIT = 2;
        private static final int AT_SECOND_DIGIT = 3;
        private static final int AT_LETTER = 4;
        private static final int AT_MARKET = 5;
        private static final int AT_POINT = 6;
        private static final int AT_OUTCOME = 7;
        private static final int AT_END = 8;

        private final char[] signs;
        int length;
        int trader;
        boolean selling;
        int number;
        int market;
        int outcome;

        TradeText() {
            signs = new char[TEXT_LENGTH];
        }

        int add(char sign, int times) {
            if (length + times > TEXT_LENGTH) {
                return FULL;
            }
            for (int i = 0; i < times && length < TEXT_LENGTH; i++) {
                signs[length] = sign;
                length++;
            }
            return length;
        }

        /** The offset of the first character that cannot stand there, or ABSENT. */
        int errorOffset() {
            int step = AT_TRADER;
            for (int i = 0; i < length; i++) {
                step = stepAfter(step, signs[i]);
                if (step == WRONG) {
                    return i;
                }
            }
            return step == AT_END ? ABSENT : length;
        }

        /** What may stand behind this sign, if it stands at this step of a trade. */
        private static int stepAfter(int step, char sign) {
            switch (step) {
                case AT_TRADER:
                    return isBetween(sign, '0', '5') ? AT_SIGN : WRONG;
                case AT_SIGN:
                    return sign == '+' || sign == '-' ? AT_FIRST_DIGIT : WRONG;
                case AT_FIRST_DIGIT:
                    return isBetween(sign, '1', '9') ? AT_SECOND_DIGIT : WRONG;
                case AT_SECOND_DIGIT:
                    if (isBetween(sign, '0', '9')) {
                        return AT_LETTER;
                    }
                    return sign == 'm' ? AT_MARKET : WRONG;
                case AT_LETTER:
                    return sign == 'm' ? AT_MARKET : WRONG;
                case AT_MARKET:
                    return isBetween(sign, '0', '5') ? AT_POINT : WRONG;
                case AT_POINT:
                    return sign == '.' ? AT_OUTCOME : WRONG;
                case AT_OUTCOME:
                    return isBetween(sign, '0', '3') ? AT_END : WRONG;
                case AT_END:
                    return sign == ';' ? AT_TRADER : WRONG;
                default:
                    return WRONG;
            }
        }

        /** Reads the trade at this offset of a text without error; the offset of the next one. */
        int readTrade(int start) {
            int step = AT_TRADER;
            for (int i = Math.max(start, 0); i < length; i++) {
                note(step, signs[i]);
                step = stepAfter(step, signs[i]);
                if (step == AT_TRADER) {
                    return i + 1;
                }
            }
            return length;
        }

        private void note(int step, char sign) {
            int digit = sign - '0';
            switch (step) {
                case AT_TRADER:
                    trader = digit;
                    break;
                case AT_SIGN:
                    selling = sign == '-';
                    break;
                case AT_FIRST_DIGIT:
                    number = digit;
                    break;
                case AT_SECOND_DIGIT:
                    if (sign != 'm') {
                        number = 10 * number + digit;
                    }
                    break;
                case AT_MARKET:
                    market = digit;
                    break;
                case AT_OUTCOME:
                    outcome = digit;
                    break;
                default:
                    break;
            }
        }
    }
}
