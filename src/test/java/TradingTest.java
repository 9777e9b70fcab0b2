/**
 * What "Terms" says of the book, of trading, of the kinds of orders and of ends, a test for each
 * sentence that names a boundary: just so many, one more, none, at a price and one beside it.
 */
public final class TradingTest {
    private static final int BUY = Scene.BUY;
    private static final int SELL = Scene.SELL;
    private static final int PLAIN = Scene.PLAIN;
    private static final int NOW = Scene.NOW;
    private static final int WHOLE = Scene.WHOLE;
    private static final int QUIET = Scene.QUIET;
    private static final int LAYERED = Scene.LAYERED;
    private static final int STOP = Scene.STOP;

    private TradingTest() {
    }

    private static int plain(Exchange x, int account, int side, int price, int amount) {
        return x.order(account, 0, side, PLAIN, price, amount, 0);
    }

    /** A trade at a price between accounts 3 and 4, who have no other order there. */
    private static void last(Exchange x, int price) {
        plain(x, 3, SELL, price, 1);
        x.order(4, 0, BUY, NOW, price, 1, 0);
    }

    /** "by prices, buying ones from the greatest, selling ones from the least": a hundred prices */
    private static void bookByPrices() {
        for (int side : new int[] {BUY, SELL}) {
            Scene book = Scene.RICH.then(x -> {
                for (int i = 0; i < 100; i++) {
                    x.order(1 + side, 0, side, PLAIN, 1 + i * 37 % 100, 1, 0);
                }
            });
            for (int i = 0; i < 100; i++) {
                int level = i;
                book.due("price " + i, side == BUY ? 100 - i : 1 + i,
                        x -> x.level(0, side, level, 0));
            }
            book.due("best", side == BUY ? 100 : 1, x -> x.best(0, side));
            book.due("prices", 100, x -> x.depth(0, side, 0));
            book.refused("no more", Check.INDEX, x -> x.level(0, side, 100, 0));
        }
        Scene ends = Scene.RICH.then(x -> {
            plain(x, 1, BUY, 2, 1);
            plain(x, 1, BUY, 1, 1);
            plain(x, 1, BUY, 3, 1);
            plain(x, 2, SELL, 9999, 1);
            plain(x, 2, SELL, 10000, 1);
            plain(x, 2, SELL, 9998, 1);
        });
        ends.due("greatest buys first", 3, x -> x.level(0, BUY, 0, 0));
        ends.due("least buys last", 1, x -> x.level(0, BUY, 2, 0));
        ends.due("least sells first", 9998, x -> x.level(0, SELL, 0, 0));
        ends.due("greatest sells last", 10000, x -> x.level(0, SELL, 2, 0));
    }

    /** "at the same price by their turns": a hundred at one price */
    private static void bookByTurns() {
        for (int side : new int[] {BUY, SELL}) {
            Scene book = Scene.RICH.then(x -> {
                for (int i = 0; i < 100; i++) {
                    x.order(1 + side, 0, side, PLAIN, 50, 1 + i, 0);
                }
            });
            for (int i = 0; i < 100; i++) {
                int order = i;
                book.due("before " + i, i * (i + 1) / 2, x -> x.ahead(order));
            }
            book.due("orders", 100, x -> x.level(0, side, 0, 1));
            book.due("shown", 5050, x -> x.depth(0, side, 50));
            Scene gone = book.then(x -> {
                x.cancel(1 + side, 0);
                x.cancel(1 + side, 50);
                x.cancel(1 + side, 99);
            });
            gone.due("the first one went", 0, x -> x.ahead(1));
            gone.due("one between went", 50 * 51 / 2 - 1, x -> x.ahead(51));
            gone.due("the last one went", 97, x -> x.level(0, side, 0, 1));
            Scene again = gone.then(x -> x.order(1 + side, 0, side, PLAIN, 50, 7, 0));
            again.due("a new one comes last", 5050 - 1 - 51 - 100, x -> x.ahead(100));
        }
    }

    /** "THE BOOK of a symbol and side": each can have all of the hundred, and lose any of them */
    private static void eachBookCanBeFull() {
        for (int book = 0; book < 8; book++) {
            int symbol = book / 2;
            int side = book % 2;
            Scene full = Scene.RICH.then(x -> {
                for (int i = 0; i < 100; i++) {
                    x.order(1 + side, symbol, side, PLAIN, 50 + i % 3, 1 + i, 0);
                }
            });
            full.due("shown at all prices", 5050, x -> x.depth(symbol, side, 50)
                    + x.depth(symbol, side, 51) + x.depth(symbol, side, 52));
            for (int gone : new int[] {0, 1, 2, 50, 97, 98, 99}) {
                full.due("cancelled " + gone, 1 + gone, x -> x.cancel(1 + side, gone));
                full.then(x -> x.cancel(1 + side, gone)).asModel("without " + gone);
            }
        }
    }

    /** "which shows at most so many (its EXTRA) at a time" */
    private static void layeredShowsAtMostItsExtra() {
        int[][] shown = {{1, 1}, {9, 9}, {10, 10}, {11, 10}, {10000, 10}};
        for (int[] row : shown) {
            Scene layered = Scene.RICH.then(x -> x.order(2, 0, SELL, LAYERED, 5, 10, row[0]));
            layered.due("shows of 10, at most " + row[0], row[1], x -> x.about(0, 2));
            layered.due("depth", row[1], x -> x.depth(0, SELL, 5));
            layered.due("all is left", 10, x -> x.level(0, SELL, 0, 2));
            layered.asModel("layered " + row[0]);
        }
        Scene met = Scene.RICH.then(x -> {
            x.order(2, 0, SELL, PLAIN, 5, 4, 0);
            x.order(1, 0, BUY, LAYERED, 5, 10, 5);
        });
        met.due("trades more than it shows, then shows so many", 5, x -> x.about(1, 2));
        met.state("what is left rests", 1, 0, 6, 4);
    }

    /** "when that is gone, it shows the next of what is left (at most so many), as the last one" */
    private static void layeredShowsTheNextAsTheLast() {
        Scene two = Scene.FUNDED.then(x -> {
            x.order(1, 0, SELL, LAYERED, 10, 10, 4);
            plain(x, 2, SELL, 10, 3);
            plain(x, 2, SELL, 11, 3);
        });
        Scene almost = two.then(x -> plain(x, 3, BUY, 10, 3));
        almost.due("one of the layer is not gone", 1, x -> x.about(0, 2));
        almost.due("so its turn stays", 0, x -> x.ahead(0));
        Scene gone = two.then(x -> plain(x, 3, BUY, 10, 4));
        gone.due("the layer is gone", 4, x -> x.about(0, 2));
        gone.due("the next comes last", 3, x -> x.ahead(0));
        gone.due("the other one is first", 0, x -> x.ahead(1));
        Scene alone = two.then(x -> plain(x, 3, BUY, 10, 7));
        alone.due("alone at its price", 0, x -> x.ahead(0));
        alone.due("still before the dearer one", 10, x -> x.best(0, SELL));
        Scene last = two.then(x -> plain(x, 3, BUY, 10, 11));
        last.due("the last layer is what is left", 2, x -> x.about(0, 2));
        last.due("layers trade one by one", 3, x -> x.count(0));
        Scene wholly = two.then(x -> plain(x, 3, BUY, 10, 13));
        wholly.state("nothing is left to show", 0, 2, 0, 10);
        wholly.due("all layers", 4, x -> x.count(0));
        wholly.asModel("layers");
        Scene pair = Scene.FUNDED.then(x -> {
            x.order(1, 0, BUY, LAYERED, 10, 5, 2);
            x.order(2, 0, BUY, LAYERED, 10, 5, 2);
            x.order(3, 0, SELL, NOW, 10, 10, 0);
        });
        int[][] due = {{0, 2}, {1, 2}, {0, 2}, {1, 2}, {0, 1}, {1, 1}};
        for (int i = 0; i < due.length; i++) {
            int trade = i;
            pair.due("in turns " + i, due[i][0], x -> x.trade(trade, 1));
            pair.due("layer " + i, due[i][1], x -> x.trade(trade, 3));
        }
    }

    /** "a buying one with selling ones that are not dearer, a selling one with .. not cheaper" */
    private static void pricesAllowAtTheSamePrice() {
        for (int kind : new int[] {PLAIN, NOW, WHOLE, LAYERED}) {
            int waiting = kind == PLAIN || kind == LAYERED ? 0 : 3;
            Scene book = Scene.FUNDED.then(x -> {
                plain(x, 1, SELL, 20, 5);
                plain(x, 1, BUY, 10, 5);
            });
            book.then(x -> x.order(2, 0, BUY, kind, 20, 5, 1)).state("buys at it", 2, 2, 0, 5);
            book.then(x -> x.order(2, 0, BUY, kind, 21, 5, 1)).state("buys above", 2, 2, 0, 5);
            book.then(x -> x.order(2, 0, BUY, kind, 19, 5, 1))
                    .state("one is dearer", 2, waiting, waiting == 0 ? 5 : 0, 0);
            book.then(x -> x.order(2, 0, SELL, kind, 10, 5, 1)).state("sells at it", 2, 2, 0, 5);
            book.then(x -> x.order(2, 0, SELL, kind, 9, 5, 1)).state("sells below", 2, 2, 0, 5);
            book.then(x -> x.order(2, 0, SELL, kind, 11, 5, 1))
                    .state("one is cheaper", 2, waiting, waiting == 0 ? 5 : 0, 0);
        }
    }

    /** "It is STOPPED, what is left of it being cancelled, if that is of its own account" */
    private static void stoppedByItsOwn() {
        Scene book = Scene.FUNDED.then(x -> {
            plain(x, 2, SELL, 10, 3);
            plain(x, 1, SELL, 10, 3);
            plain(x, 3, SELL, 10, 3);
        });
        for (int kind : new int[] {PLAIN, NOW, LAYERED}) {
            Scene before = book.then(x -> x.order(1, 0, BUY, kind, 10, 3, 1));
            before.state("all is traded before its own", 3, 2, 0, 3);
            Scene one = book.then(x -> x.order(1, 0, BUY, kind, 10, 4, 1));
            one.state("one is left at its own", 3, 3, 0, 3);
            one.state("its own one stays", 1, 0, 3, 0);
            one.state("the one behind it stays", 2, 0, 3, 0);
            one.due("nothing is held", 0, x -> x.cash(1, 1));
            one.due("nothing rests", 0, x -> x.depth(0, BUY, 0));
            Scene first = book.then(x -> x.order(2, 0, BUY, kind, 10, 1, 1));
            first.state("its own one is the first", 3, 3, 0, 0);
            first.due("without a trade", 0, x -> x.count(0));
        }
        Scene dear = Scene.FUNDED.then(x -> {
            plain(x, 1, SELL, 10, 3);
            plain(x, 1, BUY, 9, 3);
        });
        dear.state("prices that do not allow do not stop", 1, 0, 3, 0);
        Scene sells = Scene.FUNDED.then(x -> {
            plain(x, 2, BUY, 11, 1);
            plain(x, 1, BUY, 10, 3);
            plain(x, 1, SELL, 10, 5);
        });
        sells.state("selling", 2, 3, 0, 1);
        sells.due("no share is held", 0, x -> x.shares(1, 0, 1));
        sells.asModel("stopped");
    }

    /** "a woken stop becomes PLAIN": it is STOPPED, too, by its own account's order */
    private static void wokenStopIsStopped() {
        Scene woken = Scene.FUNDED.then(x -> {
            x.order(1, 0, BUY, STOP, 20, 4, 15);
            plain(x, 2, SELL, 16, 1);
            plain(x, 1, SELL, 17, 3);
            last(x, 15);
        });
        woken.state("woken and stopped", 0, 3, 0, 1);
        woken.due("holds nothing", 0, x -> x.cash(1, 1));
        woken.asModel("woken and stopped");
    }

    /** "they trade the lesser of what is left of it and what the other one shows" */
    private static void tradesTheLesser() {
        Scene shows4 = Scene.FUNDED.then(x -> x.order(1, 0, SELL, LAYERED, 10, 9, 4));
        int[][] due = {{1, 1}, {3, 3}, {4, 4}, {5, 4}};
        for (int[] row : due) {
            Scene bought = shows4.then(x -> plain(x, 2, BUY, 10, row[0]));
            bought.due("of 4, " + row[0] + " come", row[1], x -> x.trade(0, 3));
            bought.due("then", row[0] > 4 ? 2 : 1, x -> x.count(0));
            bought.state("came", 1, 2, 0, row[0]);
            bought.state("rested", 0, 0, 9 - row[0], row[0]);
        }
    }

    /** "at the other one's price .. (a buyer that would have paid more holds so much less)" */
    private static void atTheOthersPrice() {
        Scene cheap = Scene.RICH.then(x -> {
            plain(x, 2, SELL, 1, 4000);
            plain(x, 1, BUY, 10000, 10000);
        });
        cheap.due("paid", 1000000000 - 4000, x -> x.cash(1, 0));
        cheap.due("got", 4000, x -> x.cash(2, 0));
        cheap.due("holds for what is left", 60000000, x -> x.cash(1, 1));
        Scene dear = Scene.RICH.then(x -> {
            plain(x, 1, BUY, 10000, 10000);
            plain(x, 2, SELL, 1, 4000);
        });
        dear.due("paid its own", 1000000000 - 40000000, x -> x.cash(1, 0));
        dear.due("got more", 40000000, x -> x.cash(2, 0));
        dear.due("holds the rest", 60000000, x -> x.cash(1, 1));
    }

    /** "cash and shares change hands": as much as a hundred orders move */
    private static void muchChangesHands() {
        Scene dear = new Scene(x -> {
            for (int i = 0; i < 10; i++) {
                x.deposit(1, 1000000000);
            }
            x.grant(2, 0, 1000000);
            for (int i = 0; i < 99; i++) {
                plain(x, 2, SELL, 10000, 10000);
            }
            for (int i = 0; i < 99; i++) {
                plain(x, 1, BUY, 10000, 10000);
            }
        });
        dear.due("paid", 100000000, x -> x.cash(1, 0));
        dear.due("got, far beyond an int", 9900000000L, x -> x.cash(2, 0));
        dear.due("bought", 990000, x -> x.shares(1, 0, 2));
        dear.due("all that is left", 10000, x -> x.shares(2, 0, 0));
        dear.due("nothing held", 0, x -> x.cash(1, 1));
    }

    /** "AN ORDER TRADES, as long as some of it is left": ten thousand times one */
    private static void tradesAsLongAsSomeIsLeft() {
        Scene layers = Scene.RICH.then(x -> {
            x.order(2, 0, SELL, LAYERED, 3, 10000, 1);
            x.order(2, 0, SELL, LAYERED, 3, 5, 1);
        });
        Scene all = layers.then(x -> plain(x, 1, BUY, 3, 10000));
        all.state("the one that came", 2, 2, 0, 10000);
        all.due("so many trades", 10000, x -> x.count(0));
        all.due("of both", 5, x -> x.about(1, 5));
        all.due("what is left", 5, x -> x.about(0, 1));
        Scene whole = layers.then(x -> x.order(1, 0, BUY, WHOLE, 3, 10000, 0));
        whole.state("wholly, too", 2, 2, 0, 10000);
    }

    /** "A PLAIN or LAYERED one: what is left then .. RESTS, as the last one at its price" */
    private static void restsAsTheLast() {
        for (int kind : new int[] {PLAIN, LAYERED}) {
            Scene some = Scene.FUNDED.then(x -> {
                plain(x, 2, SELL, 11, 2);
                plain(x, 3, BUY, 10, 6);
                x.order(1, 0, BUY, kind, 10, 4, 9);
            });
            some.due("behind the other one", 6, x -> x.ahead(2));
            Scene one = Scene.FUNDED.then(x -> {
                plain(x, 2, SELL, 10, 3);
                x.order(1, 0, BUY, kind, 10, 4, 9);
            });
            one.state("one is left and rests", 1, 0, 1, 3);
            Scene none = Scene.FUNDED.then(x -> {
                plain(x, 2, SELL, 10, 4);
                x.order(1, 0, BUY, kind, 10, 4, 9);
            });
            none.state("none is left", 1, 2, 0, 4);
            none.due("none rests", 0, x -> x.depth(0, BUY, 0));
        }
    }

    /** "NOW: what is left is cancelled" */
    private static void nowIsCancelled() {
        Scene book = Scene.FUNDED.then(x -> plain(x, 2, SELL, 10, 3));
        book.then(x -> x.order(1, 0, BUY, NOW, 10, 3, 0)).state("none is left", 1, 2, 0, 3);
        book.then(x -> x.order(1, 0, BUY, NOW, 10, 4, 0)).state("one is left", 1, 3, 0, 3);
        book.then(x -> x.order(1, 0, BUY, NOW, 9, 3, 0)).state("all is left", 1, 3, 0, 0);
        book.then(x -> x.order(1, 1, SELL, NOW, 9, 3, 0)).state("an empty book", 1, 3, 0, 0);
        book.then(x -> x.order(1, 0, BUY, NOW, 10, 4, 0)).asModel("now");
    }

    /** "WHOLE: it is cancelled at once, unless it would trade wholly so" */
    private static void wholeTradesWhollyOrNot() {
        Scene book = Scene.FUNDED.then(x -> {
            plain(x, 2, SELL, 10, 3);
            x.order(3, 0, SELL, LAYERED, 11, 20, 4);
            plain(x, 2, SELL, 12, 5);
        });
        int[][] due = {{10, 3, 1}, {10, 4, 0}, {11, 23, 1}, {11, 24, 0}, {12, 28, 1}, {12, 29, 0},
            {9, 1, 0}};
        for (int[] row : due) {
            Scene came = book.then(x -> x.order(1, 0, BUY, WHOLE, row[0], row[1], 0));
            boolean wholly = row[2] == 1;
            came.state("at " + row[0], 3, wholly ? 2 : 3, 0, wholly ? row[1] : 0);
            came.asModel("whole");
        }
        Scene refused = book.then(x -> x.order(1, 0, BUY, WHOLE, 11, 24, 0));
        refused.due("no trade at all", 0, x -> x.count(0));
        refused.due("no layer moved", 0, x -> x.ahead(1));
        Scene.FUNDED.then(x -> x.order(1, 0, BUY, WHOLE, 10, 1, 0))
                .state("an empty book", 0, 3, 0, 0);
        Scene bids = Scene.FUNDED.then(x -> {
            plain(x, 2, BUY, 10, 3);
            plain(x, 3, BUY, 9, 2);
        });
        bids.then(x -> x.order(1, 0, SELL, WHOLE, 9, 5, 0)).state("sells all", 2, 2, 0, 5);
        bids.then(x -> x.order(1, 0, SELL, WHOLE, 9, 6, 0)).state("one too many", 2, 3, 0, 0);
        bids.then(x -> x.order(1, 0, SELL, WHOLE, 10, 4, 0)).state("one too dear", 2, 3, 0, 0);
    }

    /** "unless it would trade wholly so": not if it would be STOPPED before */
    private static void wholeAndItsOwn() {
        Scene book = Scene.FUNDED.then(x -> {
            x.order(2, 0, SELL, LAYERED, 10, 6, 4);
            x.order(3, 0, SELL, LAYERED, 11, 20, 4);
            plain(x, 2, SELL, 11, 5);
            plain(x, 1, SELL, 11, 5);
            plain(x, 2, SELL, 11, 50);
        });
        Scene last = book.then(x -> x.order(1, 0, BUY, WHOLE, 11, 15, 0));
        last.state("all that is shown before its own", 5, 2, 0, 15);
        Scene one = book.then(x -> x.order(1, 0, BUY, WHOLE, 11, 16, 0));
        one.state("one more", 5, 3, 0, 0);
        one.due("no trade", 0, x -> x.count(0));
        Scene own = book.then(x -> x.order(2, 0, BUY, WHOLE, 10, 1, 0));
        own.state("its own one is the first", 5, 3, 0, 0);
        last.asModel("whole and its own");
        one.asModel("whole and its own");
        Scene under = Scene.FUNDED.then(x -> {
            plain(x, 1, SELL, 11, 5);
            plain(x, 2, SELL, 10, 5);
            x.order(1, 0, BUY, WHOLE, 10, 5, 0);
        });
        under.state("its own one is too dear to stop it", 2, 2, 0, 5);
    }

    /** "QUIET: it is cancelled at once, if .. a price that would allow a trade; else it RESTS" */
    private static void quietRestsOrNot() {
        Scene book = Scene.FUNDED.then(x -> {
            plain(x, 2, SELL, 20, 5);
            plain(x, 2, BUY, 10, 5);
        });
        for (int account : new int[] {1, 2}) {
            book.then(x -> x.order(account, 0, BUY, QUIET, 19, 9, 0)).state("below", 2, 0, 9, 0);
            book.then(x -> x.order(account, 0, BUY, QUIET, 20, 9, 0)).state("at it", 2, 3, 0, 0);
            book.then(x -> x.order(account, 0, BUY, QUIET, 21, 9, 0)).state("above", 2, 3, 0, 0);
            book.then(x -> x.order(account, 0, SELL, QUIET, 11, 9, 0)).state("above", 2, 0, 9, 0);
            book.then(x -> x.order(account, 0, SELL, QUIET, 10, 9, 0)).state("at it", 2, 3, 0, 0);
            book.then(x -> x.order(account, 0, SELL, QUIET, 9, 9, 0)).state("below", 2, 3, 0, 0);
        }
        Scene cancelled = book.then(x -> x.order(1, 0, BUY, QUIET, 20, 9, 0));
        cancelled.due("no trade", 0, x -> x.count(0));
        cancelled.due("nothing held", 0, x -> x.cash(1, 1));
        Scene empty = Scene.FUNDED.then(x -> x.order(1, 0, BUY, QUIET, 10000, 9, 0));
        empty.state("an empty book", 0, 0, 9, 0);
        Scene rests = book.then(x -> x.order(1, 0, BUY, QUIET, 10, 9, 0));
        rests.due("as the last one", 5, x -> x.ahead(2));
    }

    /** "A STOP waits until the symbol's LAST price .. is at its EXTRA or above (if it buys)" */
    private static void buyingStopWaits() {
        Scene stop = Scene.FUNDED.then(x -> x.order(1, 0, BUY, STOP, 7, 5, 15));
        stop.then(x -> last(x, 14)).state("one below", 0, 1, 5, 0);
        stop.then(x -> last(x, 15)).state("at it", 0, 0, 5, 0);
        stop.then(x -> last(x, 16)).state("above", 0, 0, 5, 0);
        Scene ends = Scene.FUNDED.then(x -> {
            x.order(1, 0, BUY, STOP, 1, 1, 1);
            x.order(1, 0, BUY, STOP, 1, 1, 10000);
        });
        ends.then(x -> last(x, 1)).state("any price wakes the least one", 0, 0, 1, 0);
        ends.then(x -> last(x, 9999)).state("no lesser price wakes the last one", 1, 1, 1, 0);
        ends.then(x -> last(x, 10000)).state("the last price does", 1, 0, 1, 0);
    }

    /** "or at it or below (if it sells)" */
    private static void sellingStopWaits() {
        Scene stop = Scene.FUNDED.then(x -> x.order(1, 0, SELL, STOP, 30, 5, 15));
        stop.then(x -> last(x, 16)).state("one above", 0, 1, 5, 0);
        stop.then(x -> last(x, 15)).state("at it", 0, 0, 5, 0);
        stop.then(x -> last(x, 14)).state("below", 0, 0, 5, 0);
        Scene ends = Scene.FUNDED.then(x -> {
            x.order(1, 0, SELL, STOP, 10000, 1, 10000);
            x.order(1, 0, SELL, STOP, 10000, 1, 1);
        });
        ends.then(x -> last(x, 10000)).state("any price wakes the greatest", 0, 0, 1, 0);
        ends.then(x -> last(x, 2)).state("no greater price wakes the first", 1, 1, 1, 0);
        ends.then(x -> last(x, 1)).state("the first price does", 1, 0, 1, 0);
    }

    /** "LAST price (of its latest trade)", "Without a trade so far there is no LAST price" */
    private static void lastPriceIsOfTheLatestTrade() {
        Scene none = Scene.FUNDED.then(x -> {
            x.order(1, 0, BUY, STOP, 7, 5, 1);
            x.order(1, 0, SELL, STOP, 30, 5, 10000);
            plain(x, 2, SELL, 20, 5);
            x.order(3, 1, BUY, PLAIN, 9, 1, 0);
            x.order(4, 1, SELL, PLAIN, 9, 1, 0);
        });
        none.state("no trade of the symbol", 0, 1, 5, 0);
        none.state("no trade of the symbol", 1, 1, 5, 0);
        Scene fell = Scene.FUNDED.then(x -> {
            last(x, 20);
            last(x, 10);
        });
        fell.then(x -> x.order(1, 0, BUY, STOP, 7, 5, 11)).state("not the greatest", 4, 1, 5, 0);
        fell.then(x -> x.order(1, 0, BUY, STOP, 7, 5, 10)).state("the latest", 4, 0, 5, 0);
        Scene rose = Scene.FUNDED.then(x -> {
            last(x, 10);
            last(x, 20);
        });
        rose.then(x -> x.order(1, 0, SELL, STOP, 30, 5, 19)).state("not the least", 4, 1, 5, 0);
        rose.then(x -> x.order(1, 0, SELL, STOP, 30, 5, 20)).state("the latest", 4, 0, 5, 0);
        Scene swept = Scene.FUNDED.then(x -> {
            x.order(1, 0, BUY, STOP, 1, 5, 12);
            x.order(1, 0, SELL, STOP, 90, 5, 11);
            plain(x, 3, SELL, 11, 1);
            plain(x, 3, SELL, 12, 1);
            plain(x, 3, SELL, 13, 1);
            x.order(4, 0, BUY, NOW, 13, 3, 0);
        });
        swept.state("looked at when the order has traded", 0, 0, 5, 0);
        swept.state("prices on the way wake none", 1, 1, 5, 0);
    }

    /** "of all stops of the symbol that may, the one with the least number comes first" */
    private static void leastNumberComesFirst() {
        Scene three = Scene.FUNDED.then(x -> {
            x.order(1, 0, SELL, STOP, 40, 1, 20);
            x.order(2, 0, BUY, STOP, 40, 1, 15);
            x.order(1, 1, BUY, STOP, 40, 1, 1);
            x.order(3, 0, SELL, STOP, 40, 2, 16);
            last(x, 16);
        });
        three.due("two trades", 2, x -> x.count(0));
        three.due("the buying one came when 0 rested", 1, x -> x.trade(1, 0));
        three.due("and found it", 0, x -> x.trade(1, 1));
        three.state("40 is above its price", 3, 1, 2, 0);
        three.state("a stop of another symbol", 2, 1, 1, 0);
        three.asModel("least number");
    }

    /** "That is looked at .. behind each stop that became PLAIN": as long a chain as 100 allow */
    private static void stopsWakeOneAnother() {
        Scene chain = Scene.FUNDED.then(x -> {
            for (int i = 49; i >= 1; i--) {
                x.order(1, 0, BUY, STOP, 100, 1, 10 + i);
            }
            for (int i = 1; i <= 50; i++) {
                plain(x, 2, SELL, 10 + i, 1);
            }
        });
        Scene woken = chain.then(x -> plain(x, 3, BUY, 11, 1));
        chain.due("99 are there", 99, x -> x.count(2));
        woken.due("each one trades", 50, x -> x.count(0));
        woken.due("none is there", 0, x -> x.count(2));
        woken.due("the first to come has the least price", 48, x -> x.trade(1, 0));
        woken.due("the last has the greatest", 0, x -> x.trade(49, 0));
        woken.due("and the last price", 60, x -> x.symbol(0, 0));
        Scene all = Scene.FUNDED.then(x -> {
            for (int i = 0; i < 98; i++) {
                x.order(1, 0, BUY, STOP, 1 + i % 5, 1, 10);
            }
            last(x, 10);
        });
        all.due("98 stops rest at once", 98, x -> x.count(2));
        for (int price = 1; price <= 5; price++) {
            int p = price;
            all.due("at their prices", price <= 3 ? 20 : 19, x -> x.depth(0, BUY, p));
        }
        all.state("the last of them", 97, 0, 1, 0);
        woken.asModel("chain");
        all.asModel("98 stops");
    }

    /** "An order may END at a time: when TIME comes there, it is cancelled, if .. still there" */
    private static void endsWhenTimeComes() {
        Scene ends = Scene.FUNDED.then(x -> {
            plain(x, 1, BUY, 10, 5);
            x.order(1, 0, BUY, STOP, 10, 5, 15);
            x.pass(7);
            x.until(1, 0, 10);
            x.until(1, 1, 10);
        });
        ends.then(x -> x.pass(2)).state("one before", 0, 0, 5, 0);
        ends.then(x -> x.pass(3)).state("comes there", 0, 3, 0, 0);
        ends.then(x -> x.pass(3)).state("a stop, too", 1, 3, 0, 0);
        ends.then(x -> x.pass(4)).state("goes over it", 0, 3, 0, 0);
        ends.due("both", 2, x -> x.pass(3));
        ends.due("those that were traded do not count", 1, x -> {
            plain(x, 2, SELL, 10, 5);
            return x.pass(3);
        });
        ends.due("nor those cancelled", 1, x -> {
            x.cancel(1, 0);
            return x.pass(3);
        });
        ends.due("none twice", 0, x -> {
            x.pass(3);
            return x.pass(1000000);
        });
        Scene woken = ends.then(x -> last(x, 15));
        woken.state("a stop that became PLAIN", 1, 0, 5, 0);
        woken.due("ends, too", 2, x -> x.pass(3));
        woken.asModel("ends");
    }

    /**
     * "of several the earlier first, then the lesser number": an end trades nothing and wakes none,
     * so only what is there behind the call tells of it.
     */
    private static void severalEndAtOnce() {
        Scene many = Scene.FUNDED.then(x -> {
            for (int i = 0; i < 100; i++) {
                x.order(1 + i % 4, i % 2, BUY, i % 3 == 0 ? STOP : PLAIN, 10, 1, 11);
            }
            for (int i = 0; i < 100; i++) {
                x.until(1 + i % 4, i, 1 + i * 37 % 100);
            }
        });
        many.due("half", 50, x -> x.pass(50));
        many.due("all but one", 99, x -> x.pass(99));
        many.due("all", 100, x -> x.pass(100));
        many.due("all, later", 100, x -> x.pass(1000000));
        many.due("none is there", 0, x -> {
            x.pass(100);
            return x.count(2);
        });
        many.then(x -> x.pass(50)).asModel("several end");
    }

    public static void main(String[] args) {
        bookByPrices();
        bookByTurns();
        eachBookCanBeFull();
        layeredShowsAtMostItsExtra();
        layeredShowsTheNextAsTheLast();
        pricesAllowAtTheSamePrice();
        stoppedByItsOwn();
        wokenStopIsStopped();
        tradesTheLesser();
        atTheOthersPrice();
        muchChangesHands();
        tradesAsLongAsSomeIsLeft();
        restsAsTheLast();
        nowIsCancelled();
        wholeTradesWhollyOrNot();
        wholeAndItsOwn();
        quietRestsOrNot();
        buyingStopWaits();
        sellingStopWaits();
        lastPriceIsOfTheLatestTrade();
        leastNumberComesFirst();
        stopsWakeOneAnother();
        endsWhenTimeComes();
        severalEndAtOnce();
        Check.end("TradingTest");
    }
}
