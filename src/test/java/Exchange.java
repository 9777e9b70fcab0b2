/** The calls of the face, so that the same run can be made on TradeHall and on its model. */
interface Exchange {
    long deposit(int account, int amount);

    long withdraw(int account, int amount);

    int grant(int account, int symbol, int amount);

    int order(int account, int symbol, int side, int kind, int price, int amount, int extra);

    int cancel(int account, int order);

    int reduce(int account, int order, int less);

    void until(int account, int order, int time);

    int pass(int n);

    int best(int symbol, int side);

    int depth(int symbol, int side, int price);

    int level(int symbol, int side, int i, int what);

    int about(int order, int what);

    int ahead(int order);

    long cash(int account, int what);

    int shares(int account, int symbol, int what);

    int count(int what);

    int trade(int i, int what);

    int symbol(int symbol, int what);

    int busiest(int symbol, int i);
}
