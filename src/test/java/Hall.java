/** A TradeHall that sees to it that no test asks more of an object than the document promises. */
final class Hall implements Exchange {
    static final int MOST_CALLS = 512;

    private final TradeHall hall = new TradeHall();
    private int calls = 0;

    int callsLeft() {
        return MOST_CALLS - calls;
    }

    private TradeHall next() {
        if (calls >= MOST_CALLS) {
            throw new AssertionError("more than 512 calls of one object");
        }
        calls++;
        return hall;
    }

    @Override
    public long deposit(int account, int amount) {
        return next().deposit(account, amount);
    }

    @Override
    public long withdraw(int account, int amount) {
        return next().withdraw(account, amount);
    }

    @Override
    public int grant(int account, int symbol, int amount) {
        return next().grant(account, symbol, amount);
    }

    @Override
    public int order(int account, int symbol, int side, int kind, int price, int amount,
            int extra) {
        return next().order(account, symbol, side, kind, price, amount, extra);
    }

    @Override
    public int cancel(int account, int order) {
        return next().cancel(account, order);
    }

    @Override
    public int reduce(int account, int order, int less) {
        return next().reduce(account, order, less);
    }

    @Override
    public void until(int account, int order, int time) {
        next().until(account, order, time);
    }

    @Override
    public int pass(int n) {
        return next().pass(n);
    }

    @Override
    public int best(int symbol, int side) {
        return next().best(symbol, side);
    }

    @Override
    public int depth(int symbol, int side, int price) {
        return next().depth(symbol, side, price);
    }

    @Override
    public int level(int symbol, int side, int i, int what) {
        return next().level(symbol, side, i, what);
    }

    @Override
    public int about(int order, int what) {
        return next().about(order, what);
    }

    @Override
    public int ahead(int order) {
        return next().ahead(order);
    }

    @Override
    public long cash(int account, int what) {
        return next().cash(account, what);
    }

    @Override
    public int shares(int account, int symbol, int what) {
        return next().shares(account, symbol, what);
    }

    @Override
    public int count(int what) {
        return next().count(what);
    }

    @Override
    public int trade(int i, int what) {
        return next().trade(i, what);
    }

    @Override
    public int symbol(int symbol, int what) {
        return next().symbol(symbol, what);
    }

    @Override
    public int busiest(int symbol, int i) {
        return next().busiest(symbol, i);
    }
}
