/**
 * The sentences of promises 1 to 20 that name a boundary, a test for each: the last value that is
 * allowed, the first that is not, and that a refused call changed nothing. (Accounts, symbols, sides
 * and an order's numbers, which many promises share, are in TermsTest.)
 */
public final class BoundsTest {
    private static final int BUY = Scene.BUY;
    private static final int SELL = Scene.SELL;
    private static final int PLAIN = Scene.PLAIN;
    private static final int NOW = Scene.NOW;
    private static final int WHOLE = Scene.WHOLE;
    private static final int QUIET = Scene.QUIET;
    private static final int LAYERED = Scene.LAYERED;
    private static final int STOP = Scene.STOP;
    private static final int LEAST = Scene.LEAST;
    private static final int MOST = Scene.MOST;

    /**
     * Orders of account 1 that are not there any more, in each way: 0 was traded as it rested, 2 when
     * it came, 3 was cancelled by a call, 4 NOW, 5 WHOLE, 6 QUIET, 7 STOPPED, 8 ended, 9 a stop that
     * was cancelled. TIME is 5.
     */
    private static final Scene GONE = Scene.FUNDED.then(x -> {
        x.order(1, 0, SELL, PLAIN, 10, 5, 0);
        x.order(2, 0, BUY, PLAIN, 10, 7, 0);
        x.order(1, 0, SELL, PLAIN, 10, 2, 0);
        x.order(1, 0, SELL, PLAIN, 20, 5, 0);
        x.order(1, 0, SELL, NOW, 20, 5, 0);
        x.order(1, 0, SELL, WHOLE, 20, 5, 0);
        x.order(1, 0, BUY, QUIET, 20, 5, 0);
        x.order(1, 0, BUY, PLAIN, 20, 5, 0);
        x.order(1, 0, BUY, PLAIN, 9, 5, 0);
        x.order(1, 0, BUY, STOP, 9, 5, 50);
        x.cancel(1, 3);
        x.cancel(1, 9);
        x.until(1, 8, 5);
        x.pass(5);
    });
    private static final int[] GONE_OF_1 = {0, 2, 3, 4, 5, 6, 7, 8, 9};

    private BoundsTest() {
    }

    private static int plain(Exchange x, int account, int side, int price, int amount) {
        return x.order(account, 0, side, PLAIN, price, amount, 0);
    }

    /** Promise 1: "512 accounts without CASH and SHARES, empty books, no trade; TIME 0" */
    private static void aNewObject() {
        Scene fresh = Scene.NEW;
        for (int w = 0; w < 5; w++) {
            int what = w;
            fresh.due("1 count " + w, 0, x -> x.count(what));
        }
        for (int symbol = 0; symbol < 4; symbol++) {
            int s = symbol;
            for (int side : new int[] {BUY, SELL}) {
                fresh.refused("1 best", Check.NO_ELEMENT, x -> x.best(s, side));
                fresh.due("1 prices", 0, x -> x.depth(s, side, 0));
                fresh.due("1 shown", 0, x -> x.depth(s, side, 1));
                fresh.refused("1 level", Check.INDEX, x -> x.level(s, side, 0, 0));
            }
            for (int w = 0; w < 4; w++) {
                int what = w;
                fresh.due("1 symbol " + w, 0, x -> x.symbol(s, what));
            }
            fresh.refused("1 busiest", Check.INDEX, x -> x.busiest(s, 0));
        }
        fresh.refused("1 trade", Check.INDEX, x -> x.trade(0, 0));
        fresh.refused("1 about", Check.INDEX, x -> x.about(0, 0));
        fresh.refused("1 ahead", Check.INDEX, x -> x.ahead(0));
        fresh.refused("1 cancel", Check.INDEX, x -> x.cancel(0, 0));
        fresh.refused("1 reduce", Check.INDEX, x -> x.reduce(0, 0, 1));
        fresh.undone("1 until", Check.INDEX, x -> x.until(0, 0, 1));
        fresh.refused("1 withdraw", Check.STATE, x -> x.withdraw(0, 1));
        fresh.refused("1 buys", Check.STATE, x -> plain(x, 511, BUY, 1, 1));
        fresh.refused("1 sells", Check.STATE, x -> plain(x, 511, SELL, 1, 1));
    }

    /** Promise 1: another object knows nothing of what this one did */
    private static void objectsAreApart() {
        Hall first = Scene.BUSY.make();
        Hall second = new Hall();
        for (int w = 0; w < 5; w++) {
            int what = w;
            Check.due("1 another object", 0, () -> second.count(what));
        }
        Check.due("1 another object's cash", 0, () -> second.cash(1, 0));
        second.deposit(1, 7);
        Check.due("1 the first one's cash", 1000080, () -> first.cash(1, 0));
    }

    /** Promise 2: "amount is not 1 .. 1000000000" */
    private static void depositedAmounts() {
        Scene.BUSY.due("2 least", 1000081, x -> x.deposit(1, 1));
        Scene.BUSY.due("2 most", 1001000080, x -> x.deposit(1, 1000000000));
        for (int amount : new int[] {0, -1, 1000000001, LEAST, MOST}) {
            Scene.BUSY.refused("2 amount " + amount, Check.ARGUMENT, x -> x.deposit(1, amount));
            Scene.BUSY.refused("2 first amount " + amount, Check.ARGUMENT,
                    x -> x.deposit(6, amount));
        }
    }

    /** Promise 2: "it would have more than 10^15": 512 calls bring 512 * 10^9, and no more */
    private static void mostCash() {
        Scene near = new Scene(x -> {
            for (int i = 0; i < 511; i++) {
                x.deposit(511, 1000000000);
            }
        });
        near.due("2 the most that 512 calls bring", 512000000000L, x -> x.deposit(511, 1000000000));
        near.due("2 told", 511000000000L, x -> x.cash(511, 0));
        near.due("2 free", 510000000000L, x -> x.withdraw(511, 1000000000));
        near.due("2 of others none", 0, x -> x.cash(510, 0));
    }

    /** Promise 3: "IllegalArgumentException as before" */
    private static void withdrawnAmounts() {
        Scene rich = new Scene(x -> {
            x.deposit(1, 1000000000);
            x.deposit(1, 1);
        });
        rich.due("3 least", 1000000000, x -> x.withdraw(1, 1));
        rich.due("3 most", 1, x -> x.withdraw(1, 1000000000));
        for (int amount : new int[] {0, -1, 1000000001, LEAST, MOST}) {
            rich.refused("3 amount " + amount, Check.ARGUMENT, x -> x.withdraw(1, amount));
        }
    }

    /** Promise 3: "not so much is FREE" */
    private static void withdrawsWhatIsFree() {
        Scene held = new Scene(x -> {
            x.deposit(1, 100);
            x.deposit(2, 50);
            plain(x, 1, BUY, 6, 10);
        });
        held.due("3 all that is free", 60, x -> x.withdraw(1, 40));
        held.refused("3 one more", Check.STATE, x -> x.withdraw(1, 41));
        held.refused("3 all that it has", Check.STATE, x -> x.withdraw(1, 100));
        held.refused("3 the most", Check.STATE, x -> x.withdraw(1, 1000000000));
        held.refused("3 never had any", Check.STATE, x -> x.withdraw(3, 1));
        held.due("3 all without an order", 0, x -> x.withdraw(2, 50));
        held.refused("3 one more", Check.STATE, x -> x.withdraw(2, 51));
        Scene none = held.then(x -> x.withdraw(1, 40));
        none.refused("3 none is free", Check.STATE, x -> x.withdraw(1, 1));
        none.due("3 free again", 59, x -> {
            x.reduce(1, 0, 1);
            return x.withdraw(1, 1);
        });
        none.due("3 all is free again", 0, x -> {
            x.cancel(1, 0);
            return x.withdraw(1, 60);
        });
    }

    /** Promise 4: "amount is not 1 .. 1000000" */
    private static void grantedAmounts() {
        Scene.BUSY.due("4 least", 1, x -> x.grant(511, 3, 1));
        Scene.BUSY.due("4 most", 1000000, x -> x.grant(511, 3, 1000000));
        for (int amount : new int[] {0, -1, 1000001, LEAST, MOST}) {
            Scene.BUSY.refused("4 amount " + amount, Check.ARGUMENT, x -> x.grant(1, 0, amount));
            Scene.BUSY.refused("4 first amount " + amount, Check.ARGUMENT,
                    x -> x.grant(6, 3, amount));
        }
    }

    /** Promise 4: "it would have more than 10^9": 512 calls bring 512 * 10^6, and no more */
    private static void mostShares() {
        Scene near = new Scene(x -> {
            for (int i = 0; i < 511; i++) {
                x.grant(511, 3, 1000000);
            }
        });
        near.due("4 the most that 512 calls bring", 512000000, x -> x.grant(511, 3, 1000000));
        near.due("4 told", 511000000, x -> x.shares(511, 3, 0));
        near.due("4 of another symbol none", 0, x -> x.shares(511, 2, 0));
    }

    /** Promise 5: "not enough is FREE to be held": of cash, for each kind, in an empty book or not */
    private static void orderNeedsFreeCash() {
        for (int kind = PLAIN; kind <= STOP; kind++) {
            int k = kind;
            Scene exact = new Scene(x -> {
                x.deposit(1, 9999 * 77);
                x.grant(2, 0, 100);
                plain(x, 2, SELL, 1, 100);
            });
            exact.due("5 just enough, " + k, 1, x -> x.order(1, 0, BUY, k, 9999, 77, 1));
            Scene less = exact.then(x -> x.withdraw(1, 1));
            less.refused("5 one too few, though it would pay less, " + k, Check.STATE,
                    x -> x.order(1, 0, BUY, k, 9999, 77, 1));
            less.refused("5 in an empty book, " + k, Check.STATE,
                    x -> x.order(1, 1, BUY, k, 9999, 77, 1));
            less.refused("5 an account without cash, " + k, Check.STATE,
                    x -> x.order(2, 1, BUY, k, 1, 1, 1));
        }
    }

    /** Promise 5: "not enough is FREE to be held": of shares */
    private static void orderNeedsFreeShares() {
        for (int kind = PLAIN; kind <= STOP; kind++) {
            int k = kind;
            Scene exact = new Scene(x -> {
                x.grant(1, 0, 77);
                x.grant(1, 1, 10000);
                x.grant(2, 0, 10000);
            });
            exact.due("5 just enough, " + k, 0, x -> x.order(1, 0, SELL, k, 1, 77, 1));
            exact.refused("5 one too few, " + k, Check.STATE,
                    x -> x.order(1, 0, SELL, k, 1, 78, 1));
            exact.refused("5 no share of it, " + k, Check.STATE,
                    x -> x.order(1, 2, SELL, k, 1, 1, 1));
        }
    }

    /** Promise 5: shares and cash that came by a trade are free at once */
    private static void whatWasTradedIsFree() {
        Scene traded = new Scene(x -> {
            x.deposit(1, 100);
            x.grant(2, 0, 10);
            plain(x, 2, SELL, 10, 10);
            plain(x, 1, BUY, 10, 10);
        });
        traded.due("5 shares", 2, x -> plain(x, 1, SELL, 10, 10));
        traded.refused("5 one more", Check.STATE, x -> plain(x, 1, SELL, 10, 11));
        traded.due("5 cash", 2, x -> plain(x, 2, BUY, 10, 10));
        traded.refused("5 one more", Check.STATE, x -> plain(x, 2, BUY, 101, 1));
        traded.refused("5 the shares are gone", Check.STATE, x -> plain(x, 2, SELL, 1, 1));
        traded.refused("5 the cash is gone", Check.STATE, x -> plain(x, 1, BUY, 1, 1));
    }

    /** Promise 6: "no order has this number" */
    private static void cancelsNumbers() {
        Scene busy = Scene.BUSY;
        busy.due("6 the first", 6, x -> x.cancel(1, 0));
        busy.due("6 the last", 9, x -> x.cancel(4, 8));
        for (int order : new int[] {-1, 9, 10, 512, LEAST, MOST}) {
            busy.refused("6 order " + order, Check.INDEX, x -> x.cancel(1, order));
        }
    }

    /** Promise 6: "how much of it was left", "it is of another account", "not there any more" */
    private static void cancelsWhatIsThere() {
        Scene busy = Scene.BUSY;
        busy.due("6 traded in part", 4, x -> x.cancel(2, 1));
        busy.due("6 a stop", 3, x -> x.cancel(4, 4));
        for (int account : new int[] {0, 2, 3, 4, 511}) {
            busy.refused("6 another's", Check.ARGUMENT, x -> x.cancel(account, 0));
        }
        for (int order : GONE_OF_1) {
            GONE.refused("6 gone, " + order, Check.STATE, x -> x.cancel(1, order));
            GONE.refused("6 another's and gone, " + order, Check.ARGUMENT, x -> x.cancel(2, order));
        }
        busy.then(x -> x.cancel(1, 0)).asModel("6 cancelled");
        busy.then(x -> x.cancel(3, 3)).asModel("6 cancelled stop");
    }

    /** Promise 7: "less is below 1", "not more than that is left" */
    private static void reducesByLess() {
        Scene busy = Scene.BUSY;
        busy.due("7 least", 5, x -> x.reduce(1, 0, 1));
        busy.due("7 all but one", 1, x -> x.reduce(1, 0, 5));
        for (int less : new int[] {6, 7, 10000, MOST}) {
            busy.refused("7 less " + less, Check.STATE, x -> x.reduce(1, 0, less));
        }
        for (int less : new int[] {0, -1, LEAST}) {
            busy.refused("7 less " + less, Check.ARGUMENT, x -> x.reduce(1, 0, less));
        }
        Scene one = busy.then(x -> x.reduce(1, 0, 5));
        one.refused("7 of one, one", Check.STATE, x -> x.reduce(1, 0, 1));
        one.asModel("7 reduced to one");
    }

    /** Promise 7: the order's number, its account, and that it is there */
    private static void reducesWhatIsThere() {
        Scene busy = Scene.BUSY;
        busy.due("7 the last", 8, x -> x.reduce(4, 8, 1));
        for (int order : new int[] {-1, 9, 10, 512, LEAST, MOST}) {
            busy.refused("7 order " + order, Check.INDEX, x -> x.reduce(1, order, 1));
        }
        for (int account : new int[] {0, 2, 3, 4, 511}) {
            busy.refused("7 another's", Check.ARGUMENT, x -> x.reduce(account, 0, 1));
        }
        for (int order : GONE_OF_1) {
            GONE.refused("7 gone, " + order, Check.STATE, x -> x.reduce(1, order, 1));
            GONE.refused("7 gone and below, " + order, Check.ARGUMENT,
                    x -> x.reduce(1, order, 0));
        }
    }

    /** Promise 7: "from what it does not show first; its turn stays" */
    private static void reducesHiddenFirst() {
        Scene layered = Scene.FUNDED.then(x -> {
            x.order(1, 0, SELL, LAYERED, 10, 10, 4);
            plain(x, 2, SELL, 10, 5);
            plain(x, 3, BUY, 10, 1);
        });
        int[][] due = {{1, 8, 3}, {5, 4, 3}, {6, 3, 3}, {7, 2, 2}, {8, 1, 1}};
        for (int[] row : due) {
            Scene less = layered.then(x -> x.reduce(1, 0, row[0]));
            less.due("7 left, less " + row[0], row[1], x -> x.about(0, 1));
            less.due("7 shown, less " + row[0], row[2], x -> x.about(0, 2));
            less.due("7 held, less " + row[0], row[1], x -> x.shares(1, 0, 1));
            less.due("7 its turn stays", 0, x -> x.ahead(0));
            less.due("7 the one behind it", row[2], x -> x.ahead(1));
            less.due("7 depth", row[2] + 5, x -> x.depth(0, SELL, 10));
            less.due("7 it did not trade", 1, x -> x.about(0, 5));
            less.asModel("7 less " + row[0]);
        }
        layered.refused("7 all", Check.STATE, x -> x.reduce(1, 0, 9));
        Scene buys = Scene.FUNDED.then(x -> {
            plain(x, 1, BUY, 9, 5);
            x.order(1, 0, BUY, STOP, 9, 5, 20);
        });
        buys.due("7 plain shows less", 1, x -> {
            x.reduce(1, 0, 4);
            return x.about(0, 2);
        });
        buys.due("7 a stop holds less", 54, x -> {
            x.reduce(1, 1, 4);
            return x.cash(1, 1);
        });
        buys.due("7 a stop shows none", 0, x -> {
            x.reduce(1, 1, 4);
            return x.about(1, 2);
        });
    }

    /** Promise 8: "(0: at none)", "time is below 0", "time is not 0 and not above TIME" */
    private static void endsAtTimes() {
        Scene busy = Scene.BUSY;
        for (int time : new int[] {0, 11, 12, MOST}) {
            Scene ends = busy.then(x -> x.until(1, 0, time));
            ends.due("8 ends at " + time, time, x -> x.about(0, 4));
            ends.asModel("8 ends at " + time);
        }
        for (int time : new int[] {1, 9, 10}) {
            busy.undone("8 time " + time, Check.STATE, x -> x.until(1, 0, time));
            busy.undone("8 keeps its time, " + time, Check.STATE, x -> x.until(3, 2, time));
        }
        for (int time : new int[] {-1, -10, LEAST}) {
            busy.undone("8 time " + time, Check.ARGUMENT, x -> x.until(1, 0, time));
            busy.undone("8 keeps its time, " + time, Check.ARGUMENT, x -> x.until(3, 2, time));
        }
        busy.due("8 another time, not yet", 0, x -> {
            x.until(3, 2, 16);
            return x.pass(5);
        });
        busy.due("8 an earlier time", 1, x -> {
            x.until(3, 2, 11);
            return x.pass(1);
        });
        busy.due("8 none any more", 0, x -> {
            x.until(3, 2, 0);
            return x.pass(1000000);
        });
        busy.due("8 a time that never comes", 0, x -> {
            x.until(3, 2, MOST);
            return x.pass(1000000);
        });
    }

    /** Promise 8: the order's number, its account, and that it is there */
    private static void endsWhatIsThere() {
        Scene busy = Scene.BUSY;
        busy.done("8 the first", x -> x.until(1, 0, 11));
        busy.done("8 the last", x -> x.until(4, 8, 11));
        for (int order : new int[] {-1, 9, 10, 512, LEAST, MOST}) {
            busy.undone("8 order " + order, Check.INDEX, x -> x.until(1, order, 11));
        }
        for (int account : new int[] {0, 2, 3, 4, 511}) {
            busy.undone("8 another's", Check.ARGUMENT, x -> x.until(account, 0, 11));
        }
        for (int order : GONE_OF_1) {
            for (int time : new int[] {0, 5, 6}) {
                GONE.undone("8 gone, " + order, Check.STATE, x -> x.until(1, order, time));
            }
            GONE.undone("8 gone and below, " + order, Check.ARGUMENT, x -> x.until(1, order, -1));
        }
    }

    /** Promise 9: "n is not 0 .. 1000000" */
    private static void timeGoesOn() {
        Scene busy = Scene.BUSY;
        for (int n : new int[] {0, 1, 4, 5, 999999, 1000000}) {
            busy.due("9 ended, " + n, n < 5 ? 0 : 1, x -> x.pass(n));
            busy.then(x -> x.pass(n)).due("9 time, " + n, 10 + n, x -> x.count(4));
        }
        for (int n : new int[] {-1, 1000001, LEAST, MOST}) {
            busy.refused("9 n " + n, Check.ARGUMENT, x -> x.pass(n));
        }
        Scene far = new Scene(x -> {
            x.deposit(1, 10);
            plain(x, 1, BUY, 1, 10);
            x.until(1, 0, 507000000);
            for (int i = 0; i < 506; i++) {
                x.pass(1000000);
            }
        });
        far.due("9 far, one before", 0, x -> x.pass(999999));
        far.due("9 as far as 512 calls go", 1, x -> x.pass(1000000));
        Scene farther = far.then(x -> x.pass(1000000));
        farther.due("9 time", 507000000, x -> x.count(4));
        farther.due("9 ended", 3, x -> x.about(0, 3));
    }

    /** Promise 10: "The best price of a book", "NoSuchElementException" */
    private static void bestOfABook() {
        Scene.BUSY.due("10 buys", 11, x -> x.best(0, BUY));
        Scene.BUSY.due("10 sells", 20, x -> x.best(0, SELL));
        Scene.BUSY.due("10 the other symbol", 7, x -> x.best(1, SELL));
        Scene.BUSY.refused("10 the other book is empty", Check.NO_ELEMENT, x -> x.best(1, BUY));
        Scene.BUSY.refused("10 both are empty", Check.NO_ELEMENT, x -> x.best(3, SELL));
        Scene ends = Scene.RICH.then(x -> {
            plain(x, 1, BUY, 1, 1);
            plain(x, 2, SELL, 10000, 1);
        });
        ends.due("10 least", 1, x -> x.best(0, BUY));
        ends.due("10 greatest", 10000, x -> x.best(0, SELL));
        ends.then(x -> x.cancel(1, 0)).refused("10 cancelled", Check.NO_ELEMENT,
                x -> x.best(0, BUY));
        ends.then(x -> plain(x, 2, SELL, 1, 1)).refused("10 traded", Check.NO_ELEMENT,
                x -> x.best(0, BUY));
        Scene stop = Scene.RICH.then(x -> x.order(1, 0, BUY, STOP, 5, 1, 5));
        stop.refused("10 a stop is in no book", Check.NO_ELEMENT, x -> x.best(0, BUY));
    }

    /** Promise 11: "How many prices (price = 0), or how much is shown", "not 0 .. 10000" */
    private static void depthOfABook() {
        Scene book = Scene.RICH.then(x -> {
            plain(x, 1, BUY, 1, 3);
            plain(x, 1, BUY, 1, 4);
            x.order(2, 0, SELL, LAYERED, 10000, 10000, 9999);
            plain(x, 2, SELL, 10000, 10000);
            plain(x, 2, SELL, 9999, 5);
            x.order(2, 0, SELL, STOP, 9999, 5, 5);
        });
        book.due("11 one price", 1, x -> x.depth(0, BUY, 0));
        book.due("11 two prices", 2, x -> x.depth(0, SELL, 0));
        book.due("11 no price", 0, x -> x.depth(1, SELL, 0));
        book.due("11 the least price", 7, x -> x.depth(0, BUY, 1));
        book.due("11 beside it", 0, x -> x.depth(0, BUY, 2));
        book.due("11 the greatest price", 19999, x -> x.depth(0, SELL, 10000));
        book.due("11 a stop is not shown", 5, x -> x.depth(0, SELL, 9999));
        book.due("11 the other side", 0, x -> x.depth(0, BUY, 10000));
        book.due("11 another symbol", 0, x -> x.depth(1, SELL, 10000));
        for (int price : new int[] {-1, 10001, LEAST, MOST}) {
            book.refused("11 price " + price, Check.ARGUMENT, x -> x.depth(0, BUY, price));
            book.refused("11 empty, price " + price, Check.ARGUMENT, x -> x.depth(3, SELL, price));
        }
    }

    /** Promise 12: "Of the i-th price", "another what" */
    private static void levelsOfABook() {
        Scene busy = Scene.BUSY;
        int[][] due = {{11, 1, 1}, {10, 1, 6}};
        for (int i = 0; i < due.length; i++) {
            int level = i;
            for (int w = 0; w < 3; w++) {
                int what = w;
                busy.due("12 " + i + " " + w, due[i][w], x -> x.level(0, BUY, level, what));
            }
            for (int what : new int[] {-1, 3, 4, LEAST, MOST}) {
                busy.refused("12 what " + what, Check.ARGUMENT,
                        x -> x.level(0, BUY, level, what));
            }
        }
        busy.due("12 two at a price", 2, x -> x.level(0, SELL, 0, 1));
        busy.due("12 shown or not", 10, x -> x.level(0, SELL, 0, 2));
        for (int what = 0; what < 3; what++) {
            int w = what;
            for (int i : new int[] {2, 3, 99, 100, -1, LEAST, MOST}) {
                busy.refused("12 level " + i, Check.INDEX, x -> x.level(0, BUY, i, w));
            }
            busy.refused("12 one price alone", Check.INDEX, x -> x.level(0, SELL, 1, w));
            busy.refused("12 an empty book", Check.INDEX, x -> x.level(1, BUY, 0, w));
        }
    }

    /** Promise 12: "how much of them is left, shown or not", as much as a hundred orders have */
    private static void mostOfALevel() {
        Scene full = Scene.RICH.then(x -> {
            for (int i = 0; i < 100; i++) {
                x.order(2, 0, SELL, LAYERED, 10000, 10000, 1 + i);
            }
        });
        full.due("12 orders", 100, x -> x.level(0, SELL, 0, 1));
        full.due("12 left", 1000000, x -> x.level(0, SELL, 0, 2));
        full.due("11 shown", 5050, x -> x.depth(0, SELL, 10000));
    }

    /** Promise 13: each what, of an order in each state; "0 when it is not there any more" */
    private static void aboutAnOrder() {
        int[][] due = {{1, 6, 4, 0, 0, 4}, {2, 4, 4, 0, 0, 1}, {3, 6, 6, 0, 15, 0},
            {3, 2, 0, 1, 0, 0}, {4, 3, 0, 1, 0, 0}, {4, 0, 0, 2, 0, 5}, {2, 1, 1, 0, 0, 0},
            {1, 0, 0, 3, 0, 0}, {4, 9, 9, 0, 0, 0}};
        for (int o = 0; o < due.length; o++) {
            int order = o;
            for (int w = 0; w < 6; w++) {
                int what = w;
                Scene.BUSY.due("13 " + o + " " + w, due[o][w], x -> x.about(order, what));
            }
        }
        int[][] gone = {{0, 2, 5}, {2, 2, 2}, {3, 3, 0}, {4, 3, 0}, {5, 3, 0}, {6, 3, 0}, {7, 3, 0},
            {8, 3, 0}, {9, 3, 0}};
        for (int[] row : gone) {
            GONE.state("13 gone", row[0], row[1], 0, row[2]);
            GONE.due("13 gone shows none, " + row[0], 0, x -> x.about(row[0], 2));
        }
        GONE.asModel("13 gone");
    }

    /** Promise 13: "another what", and no such order */
    private static void aboutNothing() {
        for (int what : new int[] {-1, 6, 7, LEAST, MOST}) {
            for (int order : new int[] {0, 3, 5, 7, 8}) {
                Scene.BUSY.refused("13 what " + what, Check.ARGUMENT, x -> x.about(order, what));
            }
        }
        for (int order : new int[] {-1, 9, 10, 511, 512, LEAST, MOST}) {
            for (int what = 0; what < 6; what++) {
                int w = what;
                Scene.BUSY.refused("13 order " + order, Check.INDEX, x -> x.about(order, w));
            }
        }
    }

    /** Promise 14: "shown by orders before it at its price", "it does not rest" */
    private static void aheadOfAnOrder() {
        Scene busy = Scene.BUSY;
        busy.due("14 what the one before shows", 4, x -> x.ahead(0));
        busy.due("14 none before", 0, x -> x.ahead(1));
        busy.due("14 a better price is not before", 0, x -> x.ahead(2));
        busy.due("14 the best price", 0, x -> x.ahead(6));
        busy.due("14 the last order", 0, x -> x.ahead(8));
        for (int order : new int[] {3, 4}) {
            busy.refused("14 a stop", Check.NO_ELEMENT, x -> x.ahead(order));
        }
        for (int order : GONE_OF_1) {
            GONE.refused("14 gone, " + order, Check.NO_ELEMENT, x -> x.ahead(order));
        }
        for (int order : new int[] {-1, 9, 10, 511, 512, LEAST, MOST}) {
            busy.refused("14 order " + order, Check.INDEX, x -> x.ahead(order));
        }
        Scene hidden = Scene.FUNDED.then(x -> {
            x.order(1, 0, SELL, LAYERED, 10, 100, 3);
            plain(x, 2, SELL, 10, 1);
        });
        hidden.due("14 what is not shown is not before", 3, x -> x.ahead(1));
    }

    /** Promise 15: "CASH (what = 0), what is HELD of it (1)", "another what" */
    private static void cashTold() {
        int[][] due = {{0, 0}, {1000080, 0}, {1000020, 11}, {1000000, 120}, {999900, 0}};
        for (int a = 0; a < due.length; a++) {
            int account = a;
            Scene.BUSY.due("15 cash of " + a, due[a][0], x -> x.cash(account, 0));
            Scene.BUSY.due("15 held of " + a, due[a][1], x -> x.cash(account, 1));
            for (int what : new int[] {-1, 2, 3, LEAST, MOST}) {
                Scene.BUSY.refused("15 what " + what, Check.ARGUMENT, x -> x.cash(account, what));
            }
        }
    }

    /** Promise 16: each what; "another what" */
    private static void sharesTold() {
        int[][] due = {{0, 0, 0, 0}, {9996, 6, 0, 4}, {9999, 4, 0, 1}, {10000, 0, 0, 0},
            {10005, 3, 5, 0}};
        for (int a = 0; a < due.length; a++) {
            int account = a;
            for (int w = 0; w < 4; w++) {
                int what = w;
                Scene.BUSY.due("16 " + a + " " + w, due[a][w], x -> x.shares(account, 0, what));
            }
            for (int what : new int[] {-1, 4, 5, LEAST, MOST}) {
                Scene.BUSY.refused("16 what " + what, Check.ARGUMENT,
                        x -> x.shares(account, 0, what));
            }
        }
        int[] other = {10000, 9, 0, 0};
        for (int w = 0; w < 4; w++) {
            int what = w;
            Scene.BUSY.due("16 another symbol " + w, other[w], x -> x.shares(4, 1, what));
            Scene.BUSY.due("16 never had " + w, 0, x -> x.shares(4, 2, what));
        }
    }

    /** Promise 17: each what; "another what" */
    private static void countsTold() {
        int[] due = {2, 9, 7, 4, 10};
        for (int w = 0; w < 5; w++) {
            int what = w;
            Scene.BUSY.due("17 " + w, due[w], x -> x.count(what));
        }
        for (int what : new int[] {-1, 5, 6, LEAST, MOST}) {
            Scene.BUSY.refused("17 what " + what, Check.ARGUMENT, x -> x.count(what));
            Scene.NEW.refused("17 what " + what, Check.ARGUMENT, x -> x.count(what));
        }
    }

    /** Promise 17: "accounts that ever had something" */
    private static void accountsThatEverHadSomething() {
        Scene some = new Scene(x -> {
            x.deposit(0, 1);
            x.grant(511, 3, 1);
        });
        some.due("17 cash or shares", 2, x -> x.count(3));
        some.due("17 none twice", 2, x -> {
            x.deposit(511, 1);
            x.grant(0, 0, 1);
            x.deposit(0, 1);
            x.grant(511, 2, 1);
            return x.count(3);
        });
        some.due("17 what went was had", 2, x -> {
            x.withdraw(0, 1);
            return x.count(3);
        });
        some.due("17 what was sold was had", 2, x -> {
            x.order(511, 3, SELL, PLAIN, 1, 1, 0);
            x.order(0, 3, BUY, PLAIN, 1, 1, 0);
            return x.count(3);
        });
        some.due("17 a refused call brings none", 2, x -> {
            Check.told(() -> x.deposit(7, 0));
            Check.told(() -> x.deposit(7, 1000000001));
            Check.told(() -> x.grant(7, 0, 0));
            Check.told(() -> x.grant(7, 4, 1));
            Check.told(() -> x.withdraw(7, 1));
            Check.told(() -> plain(x, 7, BUY, 1, 1));
            return x.count(3);
        });
        Scene many = new Scene(x -> {
            for (int a = 0; a < 511; a++) {
                x.deposit(a, 1);
            }
        });
        many.due("17 as many as 512 calls tell", 511, x -> x.count(3));
    }

    /** Promise 18: "Of trade i, one of the first 300", "another what" */
    private static void tradesTold() {
        int[][] due = {{5, 0, 20, 4}, {5, 1, 20, 1}};
        for (int i = 0; i < due.length; i++) {
            int trade = i;
            for (int w = 0; w < 4; w++) {
                int what = w;
                Scene.BUSY.due("18 " + i + " " + w, due[i][w], x -> x.trade(trade, what));
            }
            for (int what : new int[] {-1, 4, 5, LEAST, MOST}) {
                Scene.BUSY.refused("18 what " + what, Check.ARGUMENT, x -> x.trade(trade, what));
            }
        }
        for (int i : new int[] {-1, 2, 3, 299, 300, LEAST, MOST}) {
            for (int what = 0; what < 4; what++) {
                int w = what;
                Scene.BUSY.refused("18 trade " + i, Check.INDEX, x -> x.trade(i, w));
            }
        }
    }

    /** Promise 19: "LAST price (what = 0; 0 without a trade)", greatest, least; "another what" */
    private static void symbolsTold() {
        Scene one = Scene.RICH.then(x -> {
            x.order(2, 3, SELL, PLAIN, 10000, 10000, 0);
            x.order(1, 3, BUY, PLAIN, 10000, 1, 0);
        });
        int[] first = {10000, 10000, 10000, 1};
        Scene two = one.then(x -> {
            x.order(1, 3, BUY, PLAIN, 1, 10000, 0);
            x.order(2, 3, SELL, NOW, 1, 10000, 0);
        });
        int[] second = {1, 10000, 1, 10001};
        Scene three = two.then(x -> x.order(1, 3, BUY, NOW, 10000, 3, 0));
        int[] third = {10000, 10000, 1, 10004};
        for (int w = 0; w < 4; w++) {
            int what = w;
            one.due("19 one trade, " + w, first[w], x -> x.symbol(3, what));
            two.due("19 least and greatest, " + w, second[w], x -> x.symbol(3, what));
            three.due("19 the latest, " + w, third[w], x -> x.symbol(3, what));
            one.due("19 without a trade, " + w, 0, x -> x.symbol(0, what));
        }
        for (int what : new int[] {-1, 4, 5, LEAST, MOST}) {
            one.refused("19 what " + what, Check.ARGUMENT, x -> x.symbol(3, what));
            one.refused("19 without a trade, what " + what, Check.ARGUMENT,
                    x -> x.symbol(0, what));
        }
    }

    /** Promise 20: "i-th .. the most first, of the same the lesser account; only those that did" */
    private static void busiestTold() {
        Scene some = Scene.FUNDED.then(x -> {
            x.deposit(0, 1000);
            x.deposit(511, 1000);
            plain(x, 3, SELL, 10, 6);
            plain(x, 511, BUY, 10, 2);
            plain(x, 0, BUY, 10, 2);
            plain(x, 2, BUY, 10, 2);
            plain(x, 2, SELL, 10, 2);
            plain(x, 4, BUY, 10, 2);
            plain(x, 1, BUY, 1, 9);
        });
        int[] due = {3, 2, 0, 4, 511};
        for (int i = 0; i < due.length; i++) {
            int place = i;
            some.due("20 " + i, due[i], x -> x.busiest(0, place));
        }
        for (int i : new int[] {5, 6, 511, 512, -1, LEAST, MOST}) {
            some.refused("20 i " + i, Check.INDEX, x -> x.busiest(0, i));
        }
        some.refused("20 another symbol", Check.INDEX, x -> x.busiest(1, 0));
    }

    /** Promise 20: as many accounts as 512 calls let trade, all alike */
    private static void manyAreBusy() {
        Scene many = new Scene(x -> {
            x.grant(0, 2, 10000);
            x.order(0, 2, SELL, PLAIN, 1, 10000, 0);
            for (int a = 511; a > 511 - 254; a--) {
                x.deposit(a, 1);
                x.order(a, 2, BUY, NOW, 1, 1, 0);
            }
        });
        many.due("20 the one that sold to all", 0, x -> x.busiest(2, 0));
        for (int i : new int[] {1, 2, 100, 253, 254}) {
            many.due("20 " + i, 257 + i, x -> x.busiest(2, i));
        }
        Check.refused("20 no more", Check.INDEX, () -> many.make().busiest(2, 255));
    }

    public static void main(String[] args) {
        aNewObject();
        objectsAreApart();
        depositedAmounts();
        mostCash();
        withdrawnAmounts();
        withdrawsWhatIsFree();
        grantedAmounts();
        mostShares();
        orderNeedsFreeCash();
        orderNeedsFreeShares();
        whatWasTradedIsFree();
        cancelsNumbers();
        cancelsWhatIsThere();
        reducesByLess();
        reducesWhatIsThere();
        reducesHiddenFirst();
        endsAtTimes();
        endsWhatIsThere();
        timeGoesOn();
        bestOfABook();
        depthOfABook();
        levelsOfABook();
        mostOfALevel();
        aboutAnOrder();
        aboutNothing();
        aheadOfAnOrder();
        cashTold();
        sharesTold();
        countsTold();
        accountsThatEverHadSomething();
        tradesTold();
        symbolsTold();
        busiestTold();
        manyAreBusy();
        Check.end("BoundsTest");
    }
}
