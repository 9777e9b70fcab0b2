/** Each promise of the document: ordinary inputs, the edges that it names, and wrong inputs. */
public final class PromisesTest {
    private static final int BUY = 0;
    private static final int SELL = 1;
    private static final int PLAIN = 0;
    private static final int NOW = 1;
    private static final int WHOLE = 2;
    private static final int QUIET = 3;
    private static final int LAYERED = 4;
    private static final int STOP = 5;
    private static final int LEAST = Integer.MIN_VALUE;
    private static final int MOST = Integer.MAX_VALUE;

    private PromisesTest() {
    }

    /** A hall whose accounts 1 to 4 have a million of cash and ten thousand shares of 0 and 1. */
    private static TradeHall funded() {
        TradeHall x = new TradeHall();
        for (int a = 1; a <= 4; a++) {
            x.deposit(a, 1000000);
            x.grant(a, 0, 10000);
            x.grant(a, 1, 10000);
        }
        return x;
    }

    private static int plain(TradeHall x, int account, int side, int price, int amount) {
        return x.order(account, 0, side, PLAIN, price, amount, 0);
    }

    private static void state(String name, TradeHall x, int order, int state, int left, int traded) {
        Check.due(name + ": state of " + order, state, () -> x.about(order, 3));
        Check.due(name + ": left of " + order, left, () -> x.about(order, 1));
        Check.due(name + ": traded of " + order, traded, () -> x.about(order, 5));
    }

    private static void newObject() {
        TradeHall x = new TradeHall();
        for (int a = 0; a < 512; a += 73) {
            int account = a;
            Check.due("1 cash", 0, () -> x.cash(account, 0));
            Check.due("1 held", 0, () -> x.cash(account, 1));
            for (int w = 0; w < 4; w++) {
                int what = w;
                Check.due("1 shares", 0, () -> x.shares(account, what, what));
            }
        }
        for (int w = 0; w < 5; w++) {
            int what = w;
            Check.due("1 count", 0, () -> x.count(what));
        }
        for (int s = 0; s < 4; s++) {
            int symbol = s;
            Check.refused("1 best", Check.NO_ELEMENT, () -> x.best(symbol, BUY));
            Check.refused("1 best", Check.NO_ELEMENT, () -> x.best(symbol, SELL));
            Check.due("1 depth", 0, () -> x.depth(symbol, BUY, 0));
            Check.due("1 symbol", 0, () -> x.symbol(symbol, symbol));
            Check.refused("1 busiest", Check.INDEX, () -> x.busiest(symbol, 0));
        }
        Check.refused("1 about", Check.INDEX, () -> x.about(0, 0));
        Check.refused("1 trade", Check.INDEX, () -> x.trade(0, 0));
        TradeHall y = new TradeHall();
        y.deposit(0, 5);
        Check.due("1 another object", 0, () -> x.cash(0, 0));
    }

    private static void depositing() {
        TradeHall x = new TradeHall();
        Check.due("2 least", 1, () -> x.deposit(0, 1));
        Check.due("2 most", 1000000001, () -> x.deposit(0, 1000000000));
        Check.due("2 beyond int", 3000000001L, () -> {
            x.deposit(0, 1000000000);
            return x.deposit(0, 1000000000);
        });
        Check.due("2 last account", 7, () -> x.deposit(511, 7));
        for (int account : new int[] {-1, 512, LEAST, MOST}) {
            Check.refused("2 account", Check.INDEX, () -> x.deposit(account, 1));
            Check.refused("2 account first", Check.INDEX, () -> x.deposit(account, 0));
        }
        for (int amount : new int[] {0, -1, 1000000001, LEAST, MOST}) {
            Check.refused("2 amount", Check.ARGUMENT, () -> x.deposit(0, amount));
        }
        Check.due("2 unchanged", 3000000001L, () -> x.cash(0, 0));
    }

    private static void withdrawing() {
        TradeHall x = new TradeHall();
        x.deposit(3, 100);
        x.order(3, 0, BUY, PLAIN, 6, 10, 0);
        Check.refused("3 held", Check.STATE, () -> x.withdraw(3, 41));
        Check.due("3 free", 60, () -> x.withdraw(3, 40));
        Check.refused("3 none free", Check.STATE, () -> x.withdraw(3, 1));
        Check.refused("3 never had", Check.STATE, () -> x.withdraw(4, 1));
        Check.refused("3 much", Check.STATE, () -> x.withdraw(3, 1000000000));
        x.cancel(3, 0);
        Check.due("3 all", 0, () -> x.withdraw(3, 60));
        for (int account : new int[] {-1, 512, LEAST, MOST}) {
            Check.refused("3 account", Check.INDEX, () -> x.withdraw(account, 0));
        }
        for (int amount : new int[] {0, -1, 1000000001, LEAST, MOST}) {
            Check.refused("3 amount", Check.ARGUMENT, () -> x.withdraw(3, amount));
        }
    }

    private static void granting() {
        TradeHall x = new TradeHall();
        Check.due("4 least", 1, () -> x.grant(511, 3, 1));
        Check.due("4 most", 1000001, () -> x.grant(511, 3, 1000000));
        Check.due("4 another symbol", 5, () -> x.grant(511, 2, 5));
        Check.due("4 another account", 6, () -> x.grant(510, 3, 6));
        Check.refused("4 account", Check.INDEX, () -> x.grant(512, 0, 1));
        Check.refused("4 account", Check.INDEX, () -> x.grant(-1, 0, 0));
        Check.refused("4 symbol", Check.INDEX, () -> x.grant(0, 4, 0));
        Check.refused("4 symbol", Check.INDEX, () -> x.grant(0, -1, 1));
        for (int amount : new int[] {0, -1, 1000001, LEAST, MOST}) {
            Check.refused("4 amount", Check.ARGUMENT, () -> x.grant(0, 0, amount));
        }
        Check.due("4 unchanged", 1000001, () -> x.shares(511, 3, 0));
    }

    private static void orderingWrongly() {
        TradeHall x = funded();
        int[] outside = {0, -1, 10001, LEAST, MOST};
        Check.refused("5 account", Check.INDEX, () -> x.order(-1, 0, 9, 9, 0, 0, 0));
        Check.refused("5 account", Check.INDEX, () -> x.order(512, 0, BUY, PLAIN, 1, 1, 0));
        Check.refused("5 symbol", Check.INDEX, () -> x.order(1, 4, BUY, PLAIN, 1, 1, 0));
        Check.refused("5 symbol", Check.INDEX, () -> x.order(1, -1, BUY, PLAIN, 0, 1, 0));
        Check.refused("5 side", Check.ARGUMENT, () -> x.order(1, 0, 2, PLAIN, 1, 1, 0));
        Check.refused("5 side", Check.ARGUMENT, () -> x.order(1, 0, -1, PLAIN, 1, 1, 0));
        Check.refused("5 kind", Check.ARGUMENT, () -> x.order(1, 0, BUY, 6, 1, 1, 1));
        Check.refused("5 kind", Check.ARGUMENT, () -> x.order(1, 0, BUY, -1, 1, 1, 1));
        for (int n : outside) {
            Check.refused("5 price", Check.ARGUMENT, () -> x.order(0, 0, BUY, PLAIN, n, 1, 0));
            Check.refused("5 amount", Check.ARGUMENT, () -> x.order(0, 0, BUY, PLAIN, 1, n, 0));
            Check.refused("5 extra", Check.ARGUMENT, () -> x.order(1, 0, BUY, LAYERED, 1, 1, n));
            Check.refused("5 extra", Check.ARGUMENT, () -> x.order(1, 0, BUY, STOP, 1, 1, n));
        }
        Check.due("5 nothing taken", 0, () -> x.count(1));
        for (int kind = PLAIN; kind <= STOP; kind++) {
            int k = kind;
            Check.refused("5 cash", Check.STATE, () -> x.order(1, 0, BUY, k, 10000, 101, 1));
            Check.refused("5 shares", Check.STATE, () -> x.order(1, 2, SELL, k, 1, 1, 1));
        }
        Check.due("5 nothing held", 0, () -> x.cash(1, 1));
        TradeHall y = funded();
        Check.due("5 all of the cash", 0, () -> y.order(1, 0, BUY, PLAIN, 10000, 100, 0));
        Check.refused("5 no cash is free", Check.STATE, () -> plain(y, 1, BUY, 1, 1));
        Check.due("5 all of the shares", 1, () -> y.order(2, 1, SELL, STOP, 1, 10000, 1));
        Check.refused("5 no share is free", Check.STATE, () -> y.order(2, 1, SELL, NOW, 1, 1, 0));
        for (int kind = PLAIN; kind <= QUIET; kind++) {
            int k = kind;
            Check.due("5 extra is free", k, () -> x.order(1, 0, BUY, k, 1, 1, outside[k]));
        }
        Check.due("5 most", 4, () -> x.order(1, 0, SELL, LAYERED, 10000, 10000, 10000));
        Check.refused("5 shares held", Check.STATE, () -> plain(x, 1, SELL, 10000, 1));
    }

    private static void tradingByPriceAndTurn() {
        TradeHall x = funded();
        plain(x, 1, SELL, 12, 5);
        plain(x, 2, SELL, 11, 5);
        plain(x, 3, SELL, 11, 5);
        Check.due("5 buys", 3, () -> plain(x, 4, BUY, 12, 12));
        int[][] due = {{3, 1, 11, 5}, {3, 2, 11, 5}, {3, 0, 12, 2}};
        for (int i = 0; i < due.length; i++) {
            for (int w = 0; w < 4; w++) {
                int trade = i;
                int what = w;
                Check.due("5 turn " + i + " " + w, due[i][w], () -> x.trade(trade, what));
            }
        }
        state("5 traded", x, 3, 2, 0, 12);
        state("5 rests", x, 0, 0, 3, 2);
        Check.due("5 paid", 1000000 - 134, () -> x.cash(4, 0));
        Check.due("5 nothing held", 0, () -> x.cash(4, 1));
        Check.due("5 got", 1000024, () -> x.cash(1, 0));
        plain(x, 4, BUY, 8, 5);
        plain(x, 3, BUY, 9, 5);
        plain(x, 2, SELL, 8, 12);
        Check.due("5 sells to the dearest", 9, () -> x.trade(3, 2));
        Check.due("5 then to the next", 8, () -> x.trade(4, 2));
        state("5 the rest rests", x, 6, 0, 2, 10);
        Check.due("5 at its price", 8, () -> x.best(0, SELL));
        Check.due("5 shares held", 2, () -> x.shares(2, 0, 1));
        plain(x, 3, BUY, 7, 1);
        Check.due("5 too cheap to trade", 5, () -> x.count(0));
    }

    private static void holdingLessWhenCheaper() {
        TradeHall x = funded();
        plain(x, 2, SELL, 10, 3);
        plain(x, 1, BUY, 20, 5);
        Check.due("5 holds its own price for the rest", 40, () -> x.cash(1, 1));
        Check.due("5 paid the other's price", 1000000 - 30, () -> x.cash(1, 0));
        plain(x, 2, SELL, 5, 1);
        Check.due("5 a resting buyer pays its price", 1000000 - 50, () -> x.cash(1, 0));
        Check.due("5 and holds the rest", 20, () -> x.cash(1, 1));
    }

    private static void stoppedByOwnOrder() {
        TradeHall x = funded();
        plain(x, 2, SELL, 10, 3);
        plain(x, 1, SELL, 10, 3);
        plain(x, 2, SELL, 10, 3);
        plain(x, 1, BUY, 10, 7);
        state("5 stopped", x, 3, 3, 0, 3);
        state("5 own order stays", x, 1, 0, 3, 0);
        Check.due("5 nothing held", 0, () -> x.cash(1, 1));
        Check.refused("5 does not rest", Check.NO_ELEMENT, () -> x.best(0, BUY));
        plain(x, 1, BUY, 9, 1);
        state("5 prices do not allow, so it rests", x, 4, 0, 1, 0);
        plain(x, 3, BUY, 10, 3);
        plain(x, 1, SELL, 9, 1);
        state("5 own at another price", x, 6, 3, 0, 0);
        plain(x, 2, BUY, 10, 3);
        state("5 exactly up to own", x, 7, 3, 0, 0);
    }

    private static void nowOrders() {
        TradeHall x = funded();
        plain(x, 2, SELL, 10, 3);
        x.order(1, 0, BUY, NOW, 10, 5, 0);
        state("5 now, in part", x, 1, 3, 0, 3);
        Check.due("5 now holds nothing", 0, () -> x.cash(1, 1));
        x.order(1, 0, BUY, NOW, 10, 5, 0);
        state("5 now, nothing there", x, 2, 3, 0, 0);
        plain(x, 2, SELL, 10, 5);
        x.order(1, 0, BUY, NOW, 11, 5, 0);
        state("5 now, wholly", x, 4, 2, 0, 5);
        Check.due("5 nothing is there", 0, () -> x.count(2));
    }

    private static void wholeOrders() {
        TradeHall x = funded();
        plain(x, 2, SELL, 10, 3);
        x.order(3, 0, SELL, LAYERED, 11, 20, 4);
        plain(x, 1, SELL, 11, 5);
        plain(x, 2, SELL, 12, 50);
        x.order(4, 0, BUY, WHOLE, 11, 29, 0);
        state("5 whole, one too many", x, 4, 3, 0, 0);
        Check.due("5 whole, no trade", 0, () -> x.count(0));
        x.order(1, 0, BUY, WHOLE, 12, 8, 0);
        state("5 whole, own order before what is hidden", x, 5, 3, 0, 0);
        x.order(1, 0, BUY, WHOLE, 12, 7, 0);
        state("5 whole, up to the own order", x, 6, 2, 0, 7);
        x.order(4, 0, BUY, WHOLE, 11, 21, 0);
        state("5 whole, with what is hidden", x, 7, 2, 0, 21);
        Check.due("5 whole, all of the price", 12, () -> x.best(0, SELL));
        x.order(4, 0, BUY, WHOLE, 11, 1, 0);
        state("5 whole, too cheap", x, 8, 3, 0, 0);
        Check.due("5 whole holds nothing", 0, () -> x.cash(4, 1));
        plain(x, 4, BUY, 8, 2);
        x.order(3, 0, SELL, WHOLE, 8, 2, 0);
        state("5 whole, selling", x, 10, 2, 0, 2);
    }

    private static void wholeOrdersOverLevels() {
        TradeHall x = funded();
        x.order(2, 0, SELL, LAYERED, 10, 20, 4);
        x.order(3, 0, SELL, LAYERED, 11, 20, 4);
        plain(x, 1, SELL, 11, 5);
        x.order(1, 0, BUY, WHOLE, 11, 25, 0);
        state("5 whole, own order at the second price", x, 3, 3, 0, 0);
        x.order(1, 0, BUY, WHOLE, 11, 24, 0);
        state("5 whole, all of the first price before it", x, 4, 2, 0, 24);
    }

    private static void quietOrders() {
        TradeHall x = funded();
        plain(x, 2, SELL, 10, 3);
        x.order(1, 0, BUY, QUIET, 10, 1, 0);
        state("5 quiet, would trade", x, 1, 3, 0, 0);
        x.order(2, 0, BUY, QUIET, 10, 1, 0);
        state("5 quiet, own order", x, 2, 3, 0, 0);
        x.order(1, 0, BUY, QUIET, 9, 1, 0);
        state("5 quiet, rests", x, 3, 0, 1, 0);
        x.order(2, 0, SELL, QUIET, 9, 1, 0);
        state("5 quiet sells, would trade", x, 4, 3, 0, 0);
        x.order(2, 0, SELL, QUIET, 11, 1, 0);
        state("5 quiet sells, rests", x, 5, 0, 1, 0);
        Check.due("5 quiet, no trade", 0, () -> x.count(0));
    }

    private static void layeredOrders() {
        TradeHall x = funded();
        x.order(1, 0, SELL, LAYERED, 10, 10, 4);
        plain(x, 2, SELL, 10, 3);
        plain(x, 4, BUY, 10, 3);
        Check.due("5 layer in its turn", 1, () -> x.about(0, 2));
        Check.due("5 layer before", 1, () -> x.ahead(1));
        plain(x, 4, BUY, 10, 1);
        Check.due("5 layer shows the next", 4, () -> x.about(0, 2));
        Check.due("5 layer comes last", 3, () -> x.ahead(0));
        Check.due("5 layer behind", 0, () -> x.ahead(1));
        plain(x, 4, BUY, 10, 8);
        Check.due("5 last layer", 1, () -> x.about(0, 2));
        state("5 layered", x, 0, 0, 1, 9);
        Check.due("5 layers are trades of their own", 5, () -> x.count(0));
        Check.due("5 a layer's trade", 4, () -> x.trade(3, 3));
        x.order(3, 0, BUY, LAYERED, 10, 9, 2);
        state("5 trades all that is left of it", x, 5, 0, 8, 1);
        Check.due("5 shows a layer", 2, () -> x.depth(0, BUY, 10));
        Check.due("5 holds all", 80, () -> x.cash(3, 1));
    }

    private static void stopOrders() {
        TradeHall x = funded();
        x.order(1, 0, BUY, STOP, 30, 10, 20);
        x.order(2, 0, SELL, STOP, 5, 10, 15);
        state("5 stop waits without a trade", x, 0, 1, 10, 0);
        Check.due("5 stop holds cash", 300, () -> x.cash(1, 1));
        Check.due("5 stop holds shares", 10, () -> x.shares(2, 0, 1));
        Check.due("5 stop shows nothing", 0, () -> x.about(0, 2));
        Check.due("5 stop is in no book", 0, () -> x.depth(0, BUY, 0));
        plain(x, 3, SELL, 19, 1);
        plain(x, 4, BUY, 19, 1);
        state("5 between them", x, 0, 1, 10, 0);
        state("5 between them", x, 1, 1, 10, 0);
        plain(x, 3, SELL, 20, 1);
        plain(x, 4, BUY, 20, 1);
        state("5 buying stop at its price", x, 0, 0, 10, 0);
        Check.due("5 it rests at its price", 30, () -> x.best(0, BUY));
        plain(x, 3, SELL, 30, 10);
        plain(x, 4, BUY, 15, 1);
        plain(x, 3, SELL, 15, 1);
        state("5 selling stop at its price", x, 1, 0, 10, 0);
        Check.due("5 it rests", 5, () -> x.best(0, SELL));
        x.order(4, 0, BUY, STOP, 6, 4, 15);
        state("5 stop whose price is there already", x, 9, 2, 0, 4);
        x.order(4, 1, BUY, STOP, 6, 4, 1);
        state("5 stop of another symbol", x, 10, 1, 4, 0);
    }

    private static void stopsWakeStops() {
        TradeHall x = funded();
        x.order(1, 0, BUY, STOP, 40, 1, 30);
        x.order(2, 0, BUY, STOP, 40, 1, 20);
        x.order(1, 0, BUY, STOP, 40, 1, 20);
        plain(x, 3, SELL, 20, 1);
        plain(x, 3, SELL, 25, 1);
        plain(x, 3, SELL, 30, 1);
        plain(x, 3, SELL, 35, 1);
        plain(x, 4, BUY, 20, 1);
        int[][] due = {{7, 20}, {1, 25}, {2, 30}, {0, 35}};
        for (int i = 0; i < due.length; i++) {
            int trade = i;
            Check.due("5 who woke", due[i][0], () -> x.trade(trade, 0));
            Check.due("5 at which price", due[i][1], () -> x.trade(trade, 2));
        }
        TradeHall y = funded();
        y.order(1, 0, BUY, STOP, 40, 1, 30);
        y.order(2, 0, BUY, STOP, 40, 1, 20);
        y.order(1, 0, BUY, STOP, 40, 1, 20);
        plain(y, 3, SELL, 20, 1);
        plain(y, 3, SELL, 30, 9);
        plain(y, 4, BUY, 20, 1);
        Check.due("5 the least number is looked for anew", 0, () -> y.trade(2, 0));
        Check.due("5 and the other one comes then", 2, () -> y.trade(3, 0));
        y.order(1, 0, SELL, STOP, 35, 5, 40);
        plain(y, 4, BUY, 29, 1);
        state("5 a woken stop trades as PLAIN", y, 6, 0, 5, 0);
        y.order(3, 0, BUY, STOP, 31, 2, 1);
        state("5 a woken stop is STOPPED by its own", y, 8, 3, 0, 0);
    }

    private static void atMostHundred() {
        TradeHall x = funded();
        for (int i = 0; i < 99; i++) {
            x.order(1 + i % 2, i % 2, i % 2, i % 3 == 0 ? STOP : PLAIN, 10, 1, 10);
        }
        Check.due("5 the hundredth", 99, () -> plain(x, 3, BUY, 10, 1));
        Check.due("5 there", 100, () -> x.count(2));
        for (int kind = PLAIN; kind <= STOP; kind++) {
            int k = kind;
            Check.refused("5 one more", Check.STATE, () -> x.order(4, 0, SELL, k, 10, 1, 1));
        }
        Check.refused("5 wrong and one more", Check.ARGUMENT, () -> plain(x, 4, SELL, 0, 1));
        Check.due("5 taken", 100, () -> x.count(1));
        x.cancel(3, 99);
        Check.due("5 room again", 100, () -> x.order(4, 0, SELL, NOW, 10, 3, 0));
        Check.due("5 traded", 3, () -> x.count(0));
    }

    private static void cancelling() {
        TradeHall x = funded();
        plain(x, 1, BUY, 10, 5);
        x.order(1, 0, SELL, STOP, 10, 7, 3);
        x.order(1, 0, SELL, LAYERED, 20, 9, 2);
        plain(x, 2, SELL, 10, 2);
        Check.refused("6 account", Check.INDEX, () -> x.cancel(512, 0));
        Check.refused("6 account", Check.INDEX, () -> x.cancel(-1, 0));
        Check.refused("6 order", Check.INDEX, () -> x.cancel(1, 4));
        Check.refused("6 order", Check.INDEX, () -> x.cancel(1, -1));
        Check.refused("6 another's", Check.ARGUMENT, () -> x.cancel(2, 0));
        Check.refused("6 another's, gone", Check.ARGUMENT, () -> x.cancel(1, 3));
        Check.refused("6 traded", Check.STATE, () -> x.cancel(2, 3));
        Check.due("6 what is left", 3, () -> x.cancel(1, 0));
        Check.due("6 a stop", 7, () -> x.cancel(1, 1));
        Check.due("6 shown or not", 9, () -> x.cancel(1, 2));
        Check.refused("6 twice", Check.STATE, () -> x.cancel(1, 0));
        state("6 cancelled", x, 0, 3, 0, 2);
        Check.due("6 nothing held", 0, () -> x.cash(1, 1) + x.shares(1, 0, 1));
        Check.due("6 nothing there", 0, () -> x.count(2));
        Check.due("6 empty books", 0, () -> x.depth(0, BUY, 0) + x.depth(0, SELL, 0));
    }

    private static void reducing() {
        TradeHall x = funded();
        x.order(1, 0, SELL, LAYERED, 10, 10, 4);
        plain(x, 2, SELL, 10, 5);
        x.order(1, 0, BUY, STOP, 7, 5, 50);
        Check.due("7 from what is hidden", 4, () -> x.reduce(1, 0, 6));
        Check.due("7 shows as before", 4, () -> x.about(0, 2));
        Check.due("7 then from what is shown", 3, () -> x.reduce(1, 0, 1));
        Check.due("7 shows less", 3, () -> x.about(0, 2));
        Check.due("7 held", 3, () -> x.shares(1, 0, 1));
        Check.due("7 turn stays", 3, () -> x.ahead(1));
        Check.due("7 plain", 1, () -> x.reduce(2, 1, 4));
        Check.due("7 shown", 4, () -> x.depth(0, SELL, 10));
        Check.due("7 stop", 3, () -> x.reduce(1, 2, 2));
        Check.due("7 stop holds", 21, () -> x.cash(1, 1));
        Check.due("7 stop shows", 0, () -> x.about(2, 2));
        Check.refused("7 all", Check.STATE, () -> x.reduce(1, 0, 3));
        Check.refused("7 more", Check.STATE, () -> x.reduce(1, 0, MOST));
        Check.refused("7 less", Check.ARGUMENT, () -> x.reduce(1, 0, 0));
        Check.refused("7 less", Check.ARGUMENT, () -> x.reduce(1, 0, LEAST));
        Check.refused("7 another's", Check.ARGUMENT, () -> x.reduce(2, 0, 1));
        Check.refused("7 order", Check.INDEX, () -> x.reduce(1, 3, 0));
        Check.refused("7 account", Check.INDEX, () -> x.reduce(512, 0, 0));
        x.cancel(1, 0);
        Check.refused("7 gone", Check.STATE, () -> x.reduce(1, 0, 1));
        Check.refused("7 gone and less", Check.ARGUMENT, () -> x.reduce(1, 0, 0));
        state("7 not traded", x, 0, 3, 0, 0);
    }

    private static void ending() {
        TradeHall x = funded();
        plain(x, 1, BUY, 10, 5);
        x.order(1, 0, BUY, STOP, 7, 5, 50);
        plain(x, 2, SELL, 20, 5);
        x.pass(10);
        Check.undone("8 now", Check.STATE, () -> x.until(1, 0, 10));
        Check.undone("8 before", Check.STATE, () -> x.until(1, 0, 1));
        Check.done("8 next", () -> x.until(1, 0, 11));
        Check.due("8 told", 11, () -> x.about(0, 4));
        Check.done("8 none", () -> x.until(1, 0, 0));
        Check.due("8 none told", 0, () -> x.about(0, 4));
        Check.undone("8 below", Check.ARGUMENT, () -> x.until(1, 0, -1));
        Check.undone("8 another's", Check.ARGUMENT, () -> x.until(2, 0, 20));
        Check.undone("8 order", Check.INDEX, () -> x.until(1, 3, -1));
        Check.undone("8 account", Check.INDEX, () -> x.until(512, 0, -1));
        Check.done("8 stop", () -> x.until(1, 1, 12));
        Check.done("8 most", () -> x.until(2, 2, MOST));
        Check.due("9 not yet", 0, () -> x.pass(1));
        Check.due("9 the stop ends", 1, () -> x.pass(1));
        state("9 ended", x, 1, 3, 0, 0);
        Check.undone("8 gone", Check.STATE, () -> x.until(1, 1, 0));
        Check.due("9 held", 50, () -> x.cash(1, 1));
    }

    private static void passing() {
        TradeHall x = funded();
        for (int i = 0; i < 6; i++) {
            plain(x, 1, BUY, 10, 5);
        }
        x.until(1, 0, 5);
        x.until(1, 1, 3);
        x.until(1, 2, 5);
        x.until(1, 3, 6);
        x.until(1, 4, 4);
        plain(x, 2, SELL, 10, 5);
        x.cancel(1, 4);
        Check.due("9 none", 0, () -> x.pass(0));
        Check.due("9 those that are still there", 2, () -> x.pass(5));
        state("9 traded before", x, 0, 2, 0, 5);
        state("9 ended", x, 1, 3, 0, 0);
        state("9 ended", x, 2, 3, 0, 0);
        state("9 later", x, 3, 0, 5, 0);
        Check.due("9 not in the book", 10, () -> x.depth(0, BUY, 10));
        Check.due("9 not held", 100, () -> x.cash(1, 1));
        Check.refused("9 below", Check.ARGUMENT, () -> x.pass(-1));
        Check.refused("9 above", Check.ARGUMENT, () -> x.pass(1000001));
        Check.refused("9 least", Check.ARGUMENT, () -> x.pass(LEAST));
        Check.due("9 time", 5, () -> x.count(4));
        Check.due("9 most", 1, () -> x.pass(1000000));
        Check.due("9 time", 1000005, () -> x.count(4));
    }

    private static void booksTold() {
        TradeHall x = funded();
        plain(x, 1, BUY, 10, 5);
        plain(x, 2, BUY, 12, 6);
        x.order(3, 0, BUY, LAYERED, 10, 9, 2);
        plain(x, 1, SELL, 20, 1);
        plain(x, 2, SELL, 15, 2);
        Check.due("10 buys", 12, () -> x.best(0, BUY));
        Check.due("10 sells", 15, () -> x.best(0, SELL));
        Check.refused("10 none", Check.NO_ELEMENT, () -> x.best(1, BUY));
        Check.refused("10 side", Check.ARGUMENT, () -> x.best(1, 2));
        Check.refused("10 side", Check.ARGUMENT, () -> x.best(0, -1));
        Check.refused("10 symbol", Check.INDEX, () -> x.best(4, 2));
        Check.refused("10 symbol", Check.INDEX, () -> x.best(-1, 0));
        Check.due("11 prices", 2, () -> x.depth(0, BUY, 0));
        Check.due("11 shown", 7, () -> x.depth(0, BUY, 10));
        Check.due("11 none", 0, () -> x.depth(0, BUY, 11));
        Check.due("11 other side", 0, () -> x.depth(0, SELL, 10));
        Check.due("11 last price", 0, () -> x.depth(0, SELL, 10000));
        Check.refused("11 price", Check.ARGUMENT, () -> x.depth(0, BUY, 10001));
        Check.refused("11 price", Check.ARGUMENT, () -> x.depth(0, BUY, -1));
        Check.refused("11 side", Check.ARGUMENT, () -> x.depth(0, 2, 0));
        Check.refused("11 symbol", Check.INDEX, () -> x.depth(4, 2, -1));
        int[][] due = {{12, 1, 6}, {10, 2, 14}};
        for (int i = 0; i < 2; i++) {
            for (int w = 0; w < 3; w++) {
                int level = i;
                int what = w;
                Check.due("12", due[i][w], () -> x.level(0, BUY, level, what));
            }
        }
        Check.due("12 sells", 20, () -> x.level(0, SELL, 1, 0));
        Check.refused("12 level", Check.INDEX, () -> x.level(0, BUY, 2, 0));
        Check.refused("12 level first", Check.INDEX, () -> x.level(0, BUY, 2, 9));
        Check.refused("12 level", Check.INDEX, () -> x.level(0, BUY, -1, 0));
        Check.refused("12 level", Check.INDEX, () -> x.level(0, BUY, MOST, 0));
        Check.refused("12 symbol", Check.INDEX, () -> x.level(4, 2, 0, 9));
        Check.refused("12 side", Check.ARGUMENT, () -> x.level(0, 2, 0, 0));
        Check.refused("12 what", Check.ARGUMENT, () -> x.level(0, BUY, 0, 3));
        Check.refused("12 what", Check.ARGUMENT, () -> x.level(0, BUY, 0, -1));
    }

    private static void ordersTold() {
        TradeHall x = funded();
        x.order(3, 0, BUY, LAYERED, 10, 9, 2);
        plain(x, 1, BUY, 10, 5);
        plain(x, 2, BUY, 11, 6);
        x.order(1, 0, BUY, STOP, 10, 5, 50);
        plain(x, 4, SELL, 11, 2);
        x.until(2, 2, 8);
        int[] due = {2, 4, 4, 0, 8, 2};
        for (int w = 0; w < 6; w++) {
            int what = w;
            Check.due("13 " + w, due[w], () -> x.about(2, what));
        }
        Check.due("13 layered", 2, () -> x.about(0, 2));
        Check.due("13 stop", 1, () -> x.about(3, 3));
        Check.due("13 traded", 2, () -> x.about(4, 3));
        Check.refused("13 what", Check.ARGUMENT, () -> x.about(0, 6));
        Check.refused("13 what", Check.ARGUMENT, () -> x.about(0, -1));
        Check.refused("13 order", Check.INDEX, () -> x.about(5, 6));
        Check.refused("13 order", Check.INDEX, () -> x.about(-1, 0));
        x.pass(8);
        Check.due("13 none left", 0, () -> x.about(2, 1));
        Check.due("13 none shown", 0, () -> x.about(2, 2));
        Check.due("13 cancelled", 3, () -> x.about(2, 3));
        Check.due("13 had traded", 2, () -> x.about(2, 5));
        Check.due("14 first", 0, () -> x.ahead(0));
        Check.due("14 second", 2, () -> x.ahead(1));
        Check.refused("14 stop", Check.NO_ELEMENT, () -> x.ahead(3));
        Check.refused("14 cancelled", Check.NO_ELEMENT, () -> x.ahead(2));
        Check.refused("14 traded", Check.NO_ELEMENT, () -> x.ahead(4));
        Check.refused("14 order", Check.INDEX, () -> x.ahead(5));
        Check.refused("14 order", Check.INDEX, () -> x.ahead(-1));
    }

    private static void accountsTold() {
        TradeHall x = new TradeHall();
        x.deposit(5, 1000);
        x.grant(6, 2, 50);
        x.order(6, 2, SELL, PLAIN, 10, 30, 0);
        x.order(5, 2, BUY, PLAIN, 11, 40, 0);
        Check.due("15 cash", 700, () -> x.cash(5, 0));
        Check.due("15 held", 110, () -> x.cash(5, 1));
        Check.due("15 got", 300, () -> x.cash(6, 0));
        Check.refused("15 what", Check.ARGUMENT, () -> x.cash(5, 2));
        Check.refused("15 what", Check.ARGUMENT, () -> x.cash(5, -1));
        Check.refused("15 account", Check.INDEX, () -> x.cash(512, 2));
        Check.refused("15 account", Check.INDEX, () -> x.cash(-1, 0));
        x.order(6, 2, SELL, PLAIN, 12, 15, 0);
        int[][] due = {{30, 0, 30, 0}, {20, 15, 0, 30}};
        for (int w = 0; w < 4; w++) {
            int what = w;
            Check.due("16 buyer " + w, due[0][w], () -> x.shares(5, 2, what));
            Check.due("16 seller " + w, due[1][w], () -> x.shares(6, 2, what));
            Check.due("16 another symbol", 0, () -> x.shares(6, 1, what));
        }
        Check.refused("16 what", Check.ARGUMENT, () -> x.shares(5, 2, 4));
        Check.refused("16 what", Check.ARGUMENT, () -> x.shares(5, 2, -1));
        Check.refused("16 symbol", Check.INDEX, () -> x.shares(5, 4, 4));
        Check.refused("16 account", Check.INDEX, () -> x.shares(512, 0, 4));
        x.deposit(7, 5);
        x.withdraw(7, 5);
        x.deposit(7, 5);
        x.pass(3);
        int[] counts = {1, 3, 2, 3, 3};
        for (int w = 0; w < 5; w++) {
            int what = w;
            Check.due("17 " + w, counts[w], () -> x.count(what));
        }
        Check.refused("17 what", Check.ARGUMENT, () -> x.count(5));
        Check.refused("17 what", Check.ARGUMENT, () -> x.count(-1));
    }

    private static void tradesTold() {
        TradeHall x = funded();
        x.order(1, 0, SELL, LAYERED, 10, 400, 1);
        x.order(2, 0, BUY, NOW, 10, 299, 0);
        x.order(3, 0, BUY, NOW, 10, 2, 0);
        Check.due("18 all count", 301, () -> x.count(0));
        Check.due("18 last but one kept", 1, () -> x.trade(298, 0));
        Check.due("18 last kept", 2, () -> x.trade(299, 0));
        Check.due("18 rested", 0, () -> x.trade(299, 1));
        Check.due("18 price", 10, () -> x.trade(299, 2));
        Check.due("18 amount", 1, () -> x.trade(299, 3));
        Check.refused("18 behind", Check.INDEX, () -> x.trade(300, 0));
        Check.refused("18 below", Check.INDEX, () -> x.trade(-1, 9));
        Check.refused("18 what", Check.ARGUMENT, () -> x.trade(0, 4));
        Check.refused("18 what", Check.ARGUMENT, () -> x.trade(0, -1));
        Check.due("18 those behind trade, too", 301, () -> x.symbol(0, 3));
        Check.due("18 those behind are paid", 1003010, () -> x.cash(1, 0));
        x.order(1, 1, SELL, PLAIN, 7, 5, 0);
        x.order(2, 1, BUY, PLAIN, 9, 5, 0);
        x.order(1, 1, SELL, PLAIN, 9, 5, 0);
        x.order(2, 1, BUY, PLAIN, 9, 4, 0);
        x.order(2, 1, BUY, PLAIN, 8, 4, 0);
        x.order(3, 1, SELL, PLAIN, 8, 3, 0);
        int[] due = {8, 9, 7, 12};
        for (int w = 0; w < 4; w++) {
            int what = w;
            Check.due("19 " + w, due[w], () -> x.symbol(1, what));
            Check.due("19 without a trade", 0, () -> x.symbol(3, what));
        }
        Check.refused("19 what", Check.ARGUMENT, () -> x.symbol(1, 4));
        Check.refused("19 what", Check.ARGUMENT, () -> x.symbol(3, -1));
        Check.refused("19 symbol", Check.INDEX, () -> x.symbol(4, 4));
        Check.refused("19 symbol", Check.INDEX, () -> x.symbol(-1, 0));
    }

    private static void busiestTold() {
        TradeHall x = funded();
        x.deposit(511, 1000);
        plain(x, 3, SELL, 10, 4);
        plain(x, 511, BUY, 10, 4);
        plain(x, 2, SELL, 10, 9);
        plain(x, 4, BUY, 10, 4);
        plain(x, 3, BUY, 10, 5);
        plain(x, 1, BUY, 1, 100);
        int[] due = {2, 3, 4, 511};
        for (int i = 0; i < 4; i++) {
            int place = i;
            Check.due("20 " + i, due[i], () -> x.busiest(0, place));
        }
        Check.refused("20 only those that did", Check.INDEX, () -> x.busiest(0, 4));
        Check.refused("20 below", Check.INDEX, () -> x.busiest(0, -1));
        Check.refused("20 least", Check.INDEX, () -> x.busiest(0, LEAST));
        Check.refused("20 most", Check.INDEX, () -> x.busiest(0, MOST));
        Check.refused("20 another symbol", Check.INDEX, () -> x.busiest(1, 0));
        Check.refused("20 symbol", Check.INDEX, () -> x.busiest(4, 0));
        Check.refused("20 symbol", Check.INDEX, () -> x.busiest(-1, 0));
    }

    /** The dearest run: trades of one share each, and as many as orders may have. */
    private static void dearestRun() {
        TradeHall x = new TradeHall();
        x.deposit(1, 1000000000);
        x.grant(2, 0, 1000000);
        for (int i = 0; i < 99; i++) {
            x.order(2, 0, SELL, LAYERED, 1, 10000, 1);
        }
        for (int i = 0; i < 99; i++) {
            x.order(1, 0, BUY, WHOLE, 1, 10000, 0);
        }
        Check.due("5 all was traded", 990000, () -> x.count(0));
        Check.due("5 nothing is there", 0, () -> x.count(2));
        Check.due("5 no share is lost", 1000000, () -> x.shares(1, 0, 0) + x.shares(2, 0, 0));
    }

    /** Beyond 512 calls answers are free, but the machine must not throw there either. */
    private static void beyondItsCalls() {
        TradeHall x = funded();
        for (int i = 0; i < 600; i++) {
            String told = Check.told(() -> x.order(1, 0, BUY, NOW, 1, 1, 0));
            if (!told.equals(Integer.toString(i))) {
                Check.same("beyond", told, "throws java.lang.IllegalStateException");
            }
        }
    }

    /** No 512 calls come so far; the limits stand all the same, as the promises' words have it. */
    private static void limitsOfAccounts() {
        TradeHall x = new TradeHall();
        for (int i = 0; i < 999999; i++) {
            x.deposit(0, 1000000000);
        }
        Check.due("2 up to the limit", 1000000000000000L, () -> x.deposit(0, 1000000000));
        Check.refused("2 beyond the limit", Check.STATE, () -> x.deposit(0, 1));
        for (int i = 0; i < 999; i++) {
            x.grant(0, 0, 1000000);
        }
        Check.due("4 up to the limit", 1000000000, () -> x.grant(0, 0, 1000000));
        Check.refused("4 beyond the limit", Check.STATE, () -> x.grant(0, 0, 1));
        Check.due("4 another symbol", 1, () -> x.grant(0, 1, 1));
    }

    public static void main(String[] args) {
        newObject();
        depositing();
        withdrawing();
        granting();
        orderingWrongly();
        tradingByPriceAndTurn();
        holdingLessWhenCheaper();
        stoppedByOwnOrder();
        nowOrders();
        wholeOrders();
        wholeOrdersOverLevels();
        quietOrders();
        layeredOrders();
        stopOrders();
        stopsWakeStops();
        atMostHundred();
        cancelling();
        reducing();
        ending();
        passing();
        booksTold();
        ordersTold();
        accountsTold();
        tradesTold();
        busiestTold();
        dearestRun();
        beyondItsCalls();
        limitsOfAccounts();
        Check.end("PromisesTest");
    }
}
