import java.util.NoSuchElementException;

/**
 * An exchange: accounts with cash and shares, orders of six kinds that trade by price and then by
 * turn, stops, orders that end at a time, and what was traded.
 */
public final class TradeHall {
    public static final int NONE = -1;

    private static final int ACCOUNTS = 512;
    private static final int SYMBOLS = 4;
    private static final int SIDES = 2;
    private static final int MOST_THERE = 100;
    // An object is used for at most 512 calls, so no promised call can take more orders.
    private static final int MOST_TAKEN = 512;
    private static final int MOST_KEPT = 300;
    private static final int MOST_OF_ORDER = 10000;
    private static final int MOST_CASH_MOVED = 1000000000;
    private static final long MOST_CASH = 1000000000000000L;
    private static final int MOST_GRANTED = 1000000;
    private static final int MOST_SHARES = 1000000000;
    private static final int MOST_PASSED = 1000000;

    private static final int BUYS = 0;
    private static final int SELLS = 1;

    private static final int PLAIN = 0;
    private static final int NOW = 1;
    private static final int WHOLE = 2;
    private static final int QUIET = 3;
    private static final int LAYERED = 4;
    private static final int STOP = 5;

    private static final int RESTS = 0;
    private static final int WAITS = 1;
    private static final int TRADED = 2;
    private static final int CANCELLED = 3;

    private final Ledger ledger;
    private final Orders orders;
    private final Books books;
    private final Tape tape;
    private int now;

    public TradeHall() {
        ledger = new Ledger();
        orders = new Orders();
        books = new Books(orders);
        tape = new Tape();
        now = 0;
    }

    public long deposit(int account, int amount)
            throws IndexOutOfBoundsException, IllegalArgumentException, IllegalStateException {
        needAccount(account);
        needWithin(amount, 1, MOST_CASH_MOVED);
        if (ledger.cashOf[account] + amount > MOST_CASH) {
            throw new IllegalStateException("the account would have too much cash");
        }
        ledger.cashOf[account] += amount;
        ledger.know(account);
        return ledger.cashOf[account];
    }

    public long withdraw(int account, int amount)
            throws IndexOutOfBoundsException, IllegalArgumentException, IllegalStateException {
        needAccount(account);
        needWithin(amount, 1, MOST_CASH_MOVED);
        if (ledger.freeCash(account) < amount) {
            throw new IllegalStateException("not so much cash is free");
        }
        ledger.cashOf[account] -= amount;
        return ledger.cashOf[account];
    }

    public int grant(int account, int symbol, int amount)
            throws IndexOutOfBoundsException, IllegalArgumentException, IllegalStateException {
        needAccount(account);
        needSymbol(symbol);
        needWithin(amount, 1, MOST_GRANTED);
        int place = Ledger.placeOf(account, symbol);
        if (ledger.sharesOf[place] > MOST_SHARES - amount) {
            throw new IllegalStateException("the account would have too many shares");
        }
        ledger.sharesOf[place] += amount;
        ledger.know(account);
        return ledger.sharesOf[place];
    }

    public int order(int account, int symbol, int side, int kind, int price, int amount, int extra)
            throws IndexOutOfBoundsException, IllegalArgumentException, IllegalStateException {
        needAccount(account);
        needSymbol(symbol);
        needSide(side);
        needWithin(kind, PLAIN, STOP);
        needWithin(price, 1, MOST_OF_ORDER);
        needWithin(amount, 1, MOST_OF_ORDER);
        if (kind == LAYERED || kind == STOP) {
            needWithin(extra, 1, MOST_OF_ORDER);
        }
        if (!ledger.canHold(account, symbol, side, price, amount)) {
            throw new IllegalStateException("not enough is free to be held");
        }
        if (orders.there >= MOST_THERE || orders.taken >= MOST_TAKEN) {
            throw new IllegalStateException("there are too many orders");
        }
        int order = orders.take(account, symbol, side, kind, price, amount, extra);
        hold(order, amount);
        int acting = order;
        // Each round behind the first makes a stop PLAIN, and at most 100 are there.
        for (int round = 0; round <= MOST_THERE && acting != NONE; round++) {
            actByKind(acting);
            acting = wakeStop(symbol);
        }
        return order;
    }

    public int cancel(int account, int order)
            throws IndexOutOfBoundsException, IllegalArgumentException, IllegalStateException {
        needOwnOrder(account, order);
        needThere(order);
        int left = orders.left[order];
        takeAway(order);
        return left;
    }

    public int reduce(int account, int order, int less)
            throws IndexOutOfBoundsException, IllegalArgumentException, IllegalStateException {
        needOwnOrder(account, order);
        if (less < 1) {
            throw new IllegalArgumentException("less is below 1");
        }
        needThere(order);
        if (orders.left[order] <= less) {
            throw new IllegalStateException("not more than that is left");
        }
        orders.left[order] -= less;
        orders.shown[order] = Math.min(orders.shown[order], orders.left[order]);
        hold(order, -less);
        return orders.left[order];
    }

    public void until(int account, int order, int time)
            throws IndexOutOfBoundsException, IllegalArgumentException, IllegalStateException {
        needOwnOrder(account, order);
        if (time < 0) {
            throw new IllegalArgumentException("the time is below 0");
        }
        needThere(order);
        if (time != 0 && time <= now) {
            throw new IllegalStateException("the time has been already");
        }
        orders.ends[order] = time;
    }

    public int pass(int n) throws IllegalArgumentException {
        needWithin(n, 0, MOST_PASSED);
        now += n;
        int ended = 0;
        // Cancelling trades nothing and wakes nothing, so going by numbers alone leaves the same
        // hall as going by times first.
        for (int order = 0; order < orders.taken; order++) {
            if (orders.isThere(order) && orders.ends[order] != 0 && orders.ends[order] <= now) {
                takeAway(order);
                ended++;
            }
        }
        return ended;
    }

    public int best(int symbol, int side)
            throws IndexOutOfBoundsException, IllegalArgumentException, NoSuchElementException {
        needSymbol(symbol);
        needSide(side);
        int first = books.orderAt(Books.bookOf(symbol, side), 0);
        if (first == NONE) {
            throw new NoSuchElementException("the book is empty");
        }
        return orders.price[first];
    }

    public int depth(int symbol, int side, int price)
            throws IndexOutOfBoundsException, IllegalArgumentException {
        needSymbol(symbol);
        needSide(side);
        needWithin(price, 0, MOST_OF_ORDER);
        int book = Books.bookOf(symbol, side);
        return price == 0 ? books.countPrices(book) : books.sumShown(book, price, NONE);
    }

    public int level(int symbol, int side, int i, int what)
            throws IndexOutOfBoundsException, IllegalArgumentException {
        needSymbol(symbol);
        if (i < 0) {
            throw new IndexOutOfBoundsException("there is no such level");
        }
        // Only a side that there is has a book in which the level can be looked for.
        needSide(side);
        int book = Books.bookOf(symbol, side);
        int price = books.priceOfLevel(book, i);
        if (price == NONE) {
            throw new IndexOutOfBoundsException("there is no such level");
        }
        switch (what) {
            case 0:
                return price;
            case 1:
                return books.countOrders(book, price);
            case 2:
                return books.sumLeft(book, price);
            default:
                throw new IllegalArgumentException("a level has no such number");
        }
    }

    public int about(int order, int what)
            throws IndexOutOfBoundsException, IllegalArgumentException {
        needOrder(order);
        switch (what) {
            case 0:
                return orders.account[order];
            case 1:
                return orders.left[order];
            case 2:
                return orders.shown[order];
            case 3:
                return orders.state[order];
            case 4:
                return orders.ends[order];
            case 5:
                return orders.traded[order];
            default:
                throw new IllegalArgumentException("an order has no such number");
        }
    }

    public int ahead(int order) throws IndexOutOfBoundsException, NoSuchElementException {
        needOrder(order);
        if (orders.state[order] != RESTS) {
            throw new NoSuchElementException("the order does not rest");
        }
        int book = Books.bookOf(orders.symbol[order], orders.side[order]);
        return books.sumShown(book, orders.price[order], order);
    }

    public long cash(int account, int what)
            throws IndexOutOfBoundsException, IllegalArgumentException {
        needAccount(account);
        switch (what) {
            case 0:
                return ledger.cashOf[account];
            case 1:
                return ledger.cashHeld[account];
            default:
                throw new IllegalArgumentException("cash has no such number");
        }
    }

    public int shares(int account, int symbol, int what)
            throws IndexOutOfBoundsException, IllegalArgumentException {
        needAccount(account);
        needSymbol(symbol);
        int place = Ledger.placeOf(account, symbol);
        switch (what) {
            case 0:
                return ledger.sharesOf[place];
            case 1:
                return ledger.sharesHeld[place];
            case 2:
                return ledger.bought[place];
            case 3:
                return ledger.sold[place];
            default:
                throw new IllegalArgumentException("shares have no such number");
        }
    }

    public int count(int what) throws IllegalArgumentException {
        switch (what) {
            case 0:
                return tape.trades;
            case 1:
                return orders.taken;
            case 2:
                return orders.there;
            case 3:
                return ledger.knownCount;
            case 4:
                return now;
            default:
                throw new IllegalArgumentException("there is no such count");
        }
    }

    public int trade(int i, int what) throws IndexOutOfBoundsException, IllegalArgumentException {
        if (i < 0 || i >= tape.trades || i >= MOST_KEPT) {
            throw new IndexOutOfBoundsException("there is no such trade");
        }
        switch (what) {
            case 0:
                return tape.came[i];
            case 1:
                return tape.rested[i];
            case 2:
                return tape.price[i];
            case 3:
                return tape.amount[i];
            default:
                throw new IllegalArgumentException("a trade has no such number");
        }
    }

    public int symbol(int symbol, int what)
            throws IndexOutOfBoundsException, IllegalArgumentException {
        needSymbol(symbol);
        switch (what) {
            case 0:
                return tape.last[symbol];
            case 1:
                return tape.greatest[symbol];
            case 2:
                return tape.least[symbol];
            case 3:
                return tape.volume[symbol];
            default:
                throw new IllegalArgumentException("a symbol has no such number");
        }
    }

    public int busiest(int symbol, int i) throws IndexOutOfBoundsException {
        needSymbol(symbol);
        for (int account = 0; account < ACCOUNTS; account++) {
            if (ledger.turnover(account, symbol) > 0 && ledger.countBusier(account, symbol) == i) {
                return account;
            }
        }
        throw new IndexOutOfBoundsException("there are not so many accounts that traded");
    }

    private static void needAccount(int account) {
        if (account < 0 || account >= ACCOUNTS) {
            throw new IndexOutOfBoundsException("there is no such account");
        }
    }

    private static void needSymbol(int symbol) {
        if (symbol < 0 || symbol >= SYMBOLS) {
            throw new IndexOutOfBoundsException("there is no such symbol");
        }
    }

    private static void needSide(int side) {
        if (side != BUYS && side != SELLS) {
            throw new IllegalArgumentException("there is no such side");
        }
    }

    private static void needWithin(int number, int least, int most) {
        if (number < least || number > most) {
            throw new IllegalArgumentException("a number is not as said");
        }
    }

    private void needOrder(int order) {
        if (order < 0 || order >= orders.taken) {
            throw new IndexOutOfBoundsException("no order has this number");
        }
    }

    private void needOwnOrder(int account, int order) {
        needAccount(account);
        needOrder(order);
        if (orders.account[order] != account) {
            throw new IllegalArgumentException("the order is of another account");
        }
    }

    private void needThere(int order) {
        if (!orders.isThere(order)) {
            throw new IllegalStateException("the order is not there any more");
        }
    }

    private void actByKind(int order) {
        int kind = orders.kind[order];
        if (kind == STOP) {
            return;
        }
        if (kind == QUIET) {
            if (meetsOther(order)) {
                close(order, CANCELLED);
            } else {
                rest(order);
            }
            return;
        }
        if (kind == WHOLE && !wouldTradeWholly(order)) {
            close(order, CANCELLED);
            return;
        }
        boolean stopped = tradeUntilStopped(order);
        if (orders.left[order] == 0) {
            close(order, TRADED);
        } else if (stopped || kind == NOW) {
            close(order, CANCELLED);
        } else {
            rest(order);
        }
    }

    /** The first stop of a symbol whose price has come, made PLAIN; or NONE. */
    private int wakeStop(int symbol) {
        int last = tape.last[symbol];
        if (last == 0) {
            return NONE;
        }
        for (int order = 0; order < orders.taken; order++) {
            if (orders.symbol[order] == symbol && orders.isWokenBy(order, last)) {
                orders.kind[order] = PLAIN;
                return order;
            }
        }
        return NONE;
    }

    private boolean meetsOther(int order) {
        int first = books.orderAt(books.facing(order), 0);
        return first != NONE && orders.pricesAllow(order, first);
    }

    private boolean wouldTradeWholly(int order) {
        int book = books.facing(order);
        int betterLevels = 0;
        int levelLeft = 0;
        int levelShown = 0;
        int levelPrice = 0;
        for (int i = 0; i < books.sizes[book]; i++) {
            int other = books.orderAt(book, i);
            if (other == NONE || !orders.pricesAllow(order, other)) {
                break;
            }
            if (orders.price[other] != levelPrice) {
                betterLevels += levelLeft;
                levelLeft = 0;
                levelShown = 0;
                levelPrice = orders.price[other];
            }
            if (orders.account[other] == orders.account[order]) {
                // What the ones before it do not show would come behind it, where the order is
                // STOPPED already.
                return betterLevels + levelShown >= orders.left[order];
            }
            levelLeft += orders.left[other];
            levelShown += orders.shown[other];
        }
        return betterLevels + levelLeft >= orders.left[order];
    }

    private boolean tradeUntilStopped(int order) {
        int book = books.facing(order);
        // Each round trades at least one of at most 10000.
        for (int round = 0; round < MOST_OF_ORDER && orders.left[order] > 0; round++) {
            int first = books.orderAt(book, 0);
            if (first == NONE || !orders.pricesAllow(order, first)) {
                return false;
            }
            if (orders.account[first] == orders.account[order]) {
                return true;
            }
            int amount = Math.min(orders.left[order], orders.shown[first]);
            makeTrade(order, first, amount);
            showLess(first, amount);
        }
        return false;
    }

    private void makeTrade(int came, int rested, int amount) {
        int price = orders.price[rested];
        int symbol = orders.symbol[rested];
        boolean buying = orders.side[came] == BUYS;
        int buyer = orders.account[buying ? came : rested];
        int seller = orders.account[buying ? rested : came];
        hold(came, -amount);
        hold(rested, -amount);
        ledger.handOver(buyer, seller, symbol, price, amount);
        orders.fill(came, amount);
        orders.fill(rested, amount);
        tape.note(symbol, came, rested, price, amount);
    }

    private void showLess(int rested, int amount) {
        orders.shown[rested] -= amount;
        if (orders.shown[rested] > 0) {
            return;
        }
        books.drop(rested);
        if (orders.left[rested] == 0) {
            close(rested, TRADED);
        } else {
            rest(rested);
        }
    }

    private void rest(int order) {
        int left = orders.left[order];
        orders.shown[order] =
                orders.kind[order] == LAYERED ? Math.min(orders.extra[order], left) : left;
        orders.state[order] = RESTS;
        books.putLast(order);
    }

    private void takeAway(int order) {
        if (orders.state[order] == RESTS) {
            books.drop(order);
        }
        close(order, CANCELLED);
    }

    private void close(int order, int state) {
        hold(order, -orders.left[order]);
        orders.left[order] = 0;
        orders.shown[order] = 0;
        orders.state[order] = state;
        orders.there--;
    }

    /** Holds so much more for an order; less, if the amount is below 0. */
    private void hold(int order, int amount) {
        int account = orders.account[order];
        if (orders.side[order] == BUYS) {
            ledger.cashHeld[account] += (long) orders.price[order] * amount;
        } else {
            ledger.sharesHeld[Ledger.placeOf(account, orders.symbol[order])] += amount;
        }
    }

    /** What the accounts have, what of it is held, and what they bought and sold. */
    private static final class Ledger {
        final long[] cashOf = new long[ACCOUNTS];
        final long[] cashHeld = new long[ACCOUNTS];
        final int[] sharesOf = new int[ACCOUNTS * SYMBOLS];
        final int[] sharesHeld = new int[ACCOUNTS * SYMBOLS];
        final int[] bought = new int[ACCOUNTS * SYMBOLS];
        final int[] sold = new int[ACCOUNTS * SYMBOLS];
        final boolean[] known = new boolean[ACCOUNTS];
        int knownCount = 0;

        static int placeOf(int account, int symbol) {
            return account * SYMBOLS + symbol;
        }

        void know(int account) {
            if (!known[account]) {
                known[account] = true;
                knownCount++;
            }
        }

        long freeCash(int account) {
            return cashOf[account] - cashHeld[account];
        }

        boolean canHold(int account, int symbol, int side, int price, int amount) {
            if (side == BUYS) {
                return freeCash(account) >= (long) price * amount;
            }
            int place = placeOf(account, symbol);
            return sharesOf[place] - sharesHeld[place] >= amount;
        }

        void handOver(int buyer, int seller, int symbol, int price, int amount) {
            long paid = (long) price * amount;
            cashOf[buyer] -= paid;
            cashOf[seller] += paid;
            int buyerPlace = placeOf(buyer, symbol);
            int sellerPlace = placeOf(seller, symbol);
            sharesOf[buyerPlace] += amount;
            bought[buyerPlace] += amount;
            sharesOf[sellerPlace] -= amount;
            sold[sellerPlace] += amount;
        }

        int turnover(int account, int symbol) {
            int place = placeOf(account, symbol);
            return bought[place] + sold[place];
        }

        int countBusier(int account, int symbol) {
            int own = turnover(account, symbol);
            int busier = 0;
            for (int other = 0; other < ACCOUNTS; other++) {
                int amount = turnover(other, symbol);
                if (amount > own || amount == own && other < account) {
                    busier++;
                }
            }
            return busier;
        }
    }

    /** The orders that were taken, a row for each thing that is known of one. */
    private static final class Orders {
        final int[] account = new int[MOST_TAKEN];
        final int[] symbol = new int[MOST_TAKEN];
        final int[] side = new int[MOST_TAKEN];
        final int[] kind = new int[MOST_TAKEN];
        final int[] price = new int[MOST_TAKEN];
        final int[] extra = new int[MOST_TAKEN];
        final int[] left = new int[MOST_TAKEN];
        final int[] shown = new int[MOST_TAKEN];
        final int[] state = new int[MOST_TAKEN];
        final int[] ends = new int[MOST_TAKEN];
        final int[] traded = new int[MOST_TAKEN];
        int taken = 0;
        int there = 0;

        int take(int account, int symbol, int side, int kind, int price, int amount, int extra) {
            int order = taken;
            this.account[order] = account;
            this.symbol[order] = symbol;
            this.side[order] = side;
            this.kind[order] = kind;
            this.price[order] = price;
            this.extra[order] = extra;
            left[order] = amount;
            // Until it has acted it is there without being in a book, as a stop is.
            state[order] = WAITS;
            taken++;
            there++;
            return order;
        }

        boolean isThere(int order) {
            return state[order] == RESTS || state[order] == WAITS;
        }

        /** Whether it is a stop that a LAST price wakes. */
        boolean isWokenBy(int order, int last) {
            if (state[order] != WAITS) {
                return false;
            }
            return side[order] == BUYS ? last >= extra[order] : last <= extra[order];
        }

        boolean pricesAllow(int order, int other) {
            return side[order] == BUYS
                    ? price[other] <= price[order]
                    : price[other] >= price[order];
        }

        void fill(int order, int amount) {
            left[order] -= amount;
            traded[order] += amount;
        }
    }

    /**
     * The books, one for each symbol and side. A book's row has its worst order first and its best
     * one at the end, so that what trades most is taken and put back without moving the others.
     */
    private static final class Books {
        final Orders orders;
        final int[] rows = new int[SYMBOLS * SIDES * MOST_THERE];
        final int[] sizes = new int[SYMBOLS * SIDES];

        Books(Orders orders) {
            this.orders = orders;
        }

        static int bookOf(int symbol, int side) {
            return symbol * SIDES + side;
        }

        /** The book that an order trades with. */
        int facing(int order) {
            return bookOf(orders.symbol[order], SELLS - orders.side[order]);
        }

        /** The i-th order of a book, the best one first, or NONE. */
        int orderAt(int book, int i) {
            if (i < 0 || i >= sizes[book]) {
                return NONE;
            }
            return rows[book * MOST_THERE + sizes[book] - 1 - i];
        }

        void putLast(int order) {
            int book = bookOf(orders.symbol[order], orders.side[order]);
            if (sizes[book] >= MOST_THERE) {
                return;
            }
            int sign = orders.side[order] == BUYS ? 1 : -1;
            int rank = sign * orders.price[order];
            int start = book * MOST_THERE;
            int at = start + sizes[book];
            while (at > start && sign * orders.price[rows[at - 1]] >= rank) {
                rows[at] = rows[at - 1];
                at--;
            }
            rows[at] = order;
            sizes[book]++;
        }

        void drop(int order) {
            int book = bookOf(orders.symbol[order], orders.side[order]);
            int start = book * MOST_THERE;
            int end = start + sizes[book] - 1;
            int at = end;
            while (at >= start && rows[at] != order) {
                at--;
            }
            if (at < start) {
                return;
            }
            for (int i = at; i < end; i++) {
                rows[i] = rows[i + 1];
            }
            sizes[book]--;
        }

        int countPrices(int book) {
            int prices = 0;
            int before = 0;
            for (int i = 0; i < sizes[book]; i++) {
                int price = orders.price[rows[book * MOST_THERE + i]];
                if (price != before) {
                    prices++;
                    before = price;
                }
            }
            return prices;
        }

        int priceOfLevel(int book, int level) {
            int passed = NONE;
            int before = 0;
            for (int i = sizes[book] - 1; i >= 0; i--) {
                int price = orders.price[rows[book * MOST_THERE + i]];
                if (price != before) {
                    passed++;
                    before = price;
                }
                if (passed == level) {
                    return price;
                }
            }
            return NONE;
        }

        int countOrders(int book, int price) {
            int found = 0;
            for (int i = 0; i < sizes[book]; i++) {
                if (orders.price[rows[book * MOST_THERE + i]] == price) {
                    found++;
                }
            }
            return found;
        }

        int sumLeft(int book, int price) {
            int sum = 0;
            for (int i = 0; i < sizes[book]; i++) {
                int order = rows[book * MOST_THERE + i];
                if (orders.price[order] == price) {
                    sum += orders.left[order];
                }
            }
            return sum;
        }

        /** What is shown at a price, before the order given if one is given. */
        int sumShown(int book, int price, int before) {
            int sum = 0;
            for (int i = sizes[book] - 1; i >= 0; i--) {
                int order = rows[book * MOST_THERE + i];
                if (order == before) {
                    return sum;
                }
                if (orders.price[order] == price) {
                    sum += orders.shown[order];
                }
            }
            return sum;
        }
    }

    /** What was traded: the first trades one by one, and each symbol's prices and amount. */
    private static final class Tape {
        final int[] came = new int[MOST_KEPT];
        final int[] rested = new int[MOST_KEPT];
        final int[] price = new int[MOST_KEPT];
        final int[] amount = new int[MOST_KEPT];
        final int[] last = new int[SYMBOLS];
        final int[] greatest = new int[SYMBOLS];
        final int[] least = new int[SYMBOLS];
        final int[] volume = new int[SYMBOLS];
        int trades = 0;

        void note(int symbol, int came, int rested, int price, int amount) {
            if (trades < MOST_KEPT) {
                this.came[trades] = came;
                this.rested[trades] = rested;
                this.price[trades] = price;
                this.amount[trades] = amount;
            }
            trades++;
            least[symbol] = last[symbol] == 0 ? price : Math.min(least[symbol], price);
            greatest[symbol] = Math.max(greatest[symbol], price);
            last[symbol] = price;
            volume[symbol] += amount;
        }
    }
}
