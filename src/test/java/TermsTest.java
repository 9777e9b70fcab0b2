/**
 * The sentences of "What it is" and "Terms" that name a limit, a test for each: the last value that
 * is allowed, the first that is not, and that a refused call changed nothing.
 */
public final class TermsTest {
    private static final int BUY = Scene.BUY;
    private static final int SELL = Scene.SELL;
    private static final int PLAIN = Scene.PLAIN;
    private static final int NOW = Scene.NOW;
    private static final int WHOLE = Scene.WHOLE;
    private static final int QUIET = Scene.QUIET;
    private static final int LAYERED = Scene.LAYERED;
    private static final int STOP = Scene.STOP;
    private static final int LEAST = Scene.LEAST;
    private static final int MOST = Scene.MOST;
    private static final int[] KINDS = {PLAIN, NOW, WHOLE, QUIET, LAYERED, STOP};
    private static final int[] STAYING = {PLAIN, QUIET, LAYERED, STOP};
    private static final int[] NOT_1_TO_10000 = {0, -1, 10001, 20000, LEAST, MOST};

    private TermsTest() {
    }

    private static int plain(Exchange x, int account, int side, int price, int amount) {
        return x.order(account, 0, side, PLAIN, price, amount, 0);
    }

    /** "An object is used for at most 512 calls after it has been made" */
    private static void usedFor512Calls() {
        Scene deposits = new Scene(x -> {
            for (int i = 0; i < 511; i++) {
                x.deposit(0, 1);
            }
        });
        deposits.due("512th deposit", 512, x -> x.deposit(0, 1));
        Scene taken = new Scene(x -> {
            x.deposit(0, 1);
            for (int i = 0; i < 510; i++) {
                x.order(0, 0, BUY, NOW, 1, 1, 0);
            }
        });
        taken.due("the 511th order is the 512th call", 510, x -> x.order(0, 0, BUY, NOW, 1, 1, 0));
        taken.due("of all orders the last", 3, x -> x.about(509, 3));
        Check.refused("of all orders none more", Check.INDEX, () -> taken.make().about(510, 3));
        taken.due("510 orders", 510, x -> x.count(1));
    }

    /** "An object is used for at most 512 calls": each call still answers as the 512th one. */
    private static void eachCallAsThe512th() {
        Scene late = Scene.BUSY.then(x -> {
            for (int used = 23; used < 511; used++) {
                x.count(0);
            }
        });
        late.due("512th deposit", 1000001, x -> x.deposit(3, 1));
        late.due("512th withdraw", 999999, x -> x.withdraw(3, 1));
        late.due("512th grant", 10001, x -> x.grant(3, 0, 1));
        late.due("512th order", 9, x -> x.order(3, 0, BUY, PLAIN, 1, 1, 0));
        late.due("512th cancel", 6, x -> x.cancel(1, 0));
        late.due("512th reduce", 5, x -> x.reduce(1, 0, 1));
        late.done("512th until", x -> x.until(1, 0, 11));
        late.due("512th pass", 1, x -> x.pass(5));
        late.due("512th best", 11, x -> x.best(0, BUY));
        late.due("512th depth", 8, x -> x.depth(0, SELL, 20));
        late.due("512th level", 10, x -> x.level(0, SELL, 0, 2));
        late.due("512th about", 4, x -> x.about(0, 5));
        late.due("512th ahead", 4, x -> x.ahead(0));
        late.due("512th cash", 999900, x -> x.cash(4, 0));
        late.due("512th shares", 4, x -> x.shares(1, 0, 3));
        late.due("512th count", 7, x -> x.count(2));
        late.due("512th trade", 4, x -> x.trade(0, 3));
        late.due("512th symbol", 5, x -> x.symbol(0, 3));
        late.due("512th busiest", 4, x -> x.busiest(0, 0));
    }

    /** "ACCOUNTS are 0 .. 511" */
    private static void accountsAre0To511() {
        Scene ends = new Scene(x -> {
            for (int account : new int[] {0, 511}) {
                x.deposit(account, 1000);
                x.grant(account, 0, 100);
            }
            x.order(0, 0, BUY, PLAIN, 5, 10, 0);
            x.order(511, 0, SELL, PLAIN, 6, 10, 0);
        });
        for (int account : new int[] {0, 511}) {
            int own = account == 0 ? 0 : 1;
            ends.due("deposit " + account, 1001, x -> x.deposit(account, 1));
            ends.due("withdraw " + account, 999, x -> x.withdraw(account, 1));
            ends.due("grant " + account, 101, x -> x.grant(account, 0, 1));
            ends.due("order " + account, 2, x -> x.order(account, 0, BUY, PLAIN, 1, 1, 0));
            ends.due("cancel " + account, 10, x -> x.cancel(account, own));
            ends.due("reduce " + account, 9, x -> x.reduce(account, own, 1));
            ends.done("until " + account, x -> x.until(account, own, 1));
            ends.due("cash " + account, 1000, x -> x.cash(account, 0));
            ends.due("shares " + account, 100, x -> x.shares(account, 0, 0));
        }
        for (int account : new int[] {-1, 512, 513, LEAST, MOST}) {
            ends.refused("deposit " + account, Check.INDEX, x -> x.deposit(account, 1));
            ends.refused("withdraw " + account, Check.INDEX, x -> x.withdraw(account, 1));
            ends.refused("grant " + account, Check.INDEX, x -> x.grant(account, 0, 1));
            ends.refused("order " + account, Check.INDEX,
                    x -> x.order(account, 0, BUY, PLAIN, 1, 1, 0));
            ends.refused("cancel " + account, Check.INDEX, x -> x.cancel(account, 0));
            ends.refused("reduce " + account, Check.INDEX, x -> x.reduce(account, 0, 1));
            ends.undone("until " + account, Check.INDEX, x -> x.until(account, 0, 1));
            ends.refused("cash " + account, Check.INDEX, x -> x.cash(account, 0));
            ends.refused("shares " + account, Check.INDEX, x -> x.shares(account, 0, 0));
        }
    }

    /** "SYMBOLS 0 .. 3" */
    private static void symbolsAre0To3() {
        Scene ends = new Scene(x -> {
            x.deposit(1, 1000);
            for (int symbol : new int[] {0, 3}) {
                x.grant(2, symbol, 100);
                x.order(2, symbol, SELL, PLAIN, 6 + symbol, 10, 0);
                x.order(1, symbol, BUY, PLAIN, 6 + symbol, 4, 0);
            }
        });
        for (int symbol : new int[] {0, 3}) {
            int price = 6 + symbol;
            ends.due("grant " + symbol, 97, x -> x.grant(2, symbol, 1));
            ends.due("order " + symbol, 4, x -> x.order(1, symbol, BUY, PLAIN, 1, 1, 0));
            ends.due("best " + symbol, price, x -> x.best(symbol, SELL));
            ends.due("depth " + symbol, 6, x -> x.depth(symbol, SELL, price));
            ends.due("level " + symbol, price, x -> x.level(symbol, SELL, 0, 0));
            ends.due("shares " + symbol, 96, x -> x.shares(2, symbol, 0));
            ends.due("symbol " + symbol, price, x -> x.symbol(symbol, 0));
            ends.due("busiest " + symbol, 1, x -> x.busiest(symbol, 0));
        }
        for (int symbol : new int[] {-1, 4, 5, LEAST, MOST}) {
            ends.refused("grant " + symbol, Check.INDEX, x -> x.grant(2, symbol, 1));
            ends.refused("order " + symbol, Check.INDEX,
                    x -> x.order(1, symbol, BUY, PLAIN, 1, 1, 0));
            ends.refused("best " + symbol, Check.INDEX, x -> x.best(symbol, SELL));
            ends.refused("depth " + symbol, Check.INDEX, x -> x.depth(symbol, SELL, 6));
            ends.refused("level " + symbol, Check.INDEX, x -> x.level(symbol, SELL, 0, 0));
            ends.refused("shares " + symbol, Check.INDEX, x -> x.shares(2, symbol, 0));
            ends.refused("symbol " + symbol, Check.INDEX, x -> x.symbol(symbol, 0));
            ends.refused("busiest " + symbol, Check.INDEX, x -> x.busiest(symbol, 0));
        }
    }

    /** "TIME is 0 at first" */
    private static void timeIs0AtFirst() {
        Scene.NEW.due("time", 0, x -> x.count(4));
        Scene one = Scene.FUNDED.then(x -> plain(x, 1, BUY, 1, 1));
        one.done("the first time that is above", x -> x.until(1, 0, 1));
        one.due("which comes when one has passed", 1, x -> {
            x.until(1, 0, 1);
            return x.pass(1);
        });
    }

    /** "An account has CASH and SHARES of each symbol, all 0 at first" */
    private static void all0AtFirst() {
        Hall x = new Hall();
        for (int a = 0; a < 512; a++) {
            for (int w = 0; w < 18; w++) {
                if (x.callsLeft() == 0) {
                    x = new Hall();
                }
                long answer = w < 2 ? x.cash(a, w) : x.shares(a, (w - 2) / 4, (w - 2) % 4);
                Check.due("account " + a + " at first, " + w, 0, () -> answer);
            }
        }
    }

    /** "what is HELD of them is not FREE": cash */
    private static void heldCashIsNotFree() {
        Scene held = new Scene(x -> {
            x.deposit(1, 100);
            x.order(1, 0, BUY, PLAIN, 6, 10, 0);
        });
        held.due("all that is free", 60, x -> x.withdraw(1, 40));
        held.refused("one more", Check.STATE, x -> x.withdraw(1, 41));
        for (int kind : KINDS) {
            held.due("ordered for all, " + kind, 1, x -> x.order(1, 1, BUY, kind, 8, 5, 1));
            held.refused("for one more, " + kind, Check.STATE,
                    x -> x.order(1, 1, BUY, kind, 41, 1, 1));
        }
        held.then(x -> x.withdraw(1, 40)).refused("none is free", Check.STATE,
                x -> x.order(1, 1, BUY, PLAIN, 1, 1, 0));
    }

    /** "what is HELD of them is not FREE": shares, of each symbol by itself */
    private static void heldSharesAreNotFree() {
        Scene held = new Scene(x -> {
            x.grant(1, 0, 100);
            x.grant(1, 1, 100);
            x.order(1, 0, SELL, PLAIN, 6, 60, 0);
        });
        for (int kind : KINDS) {
            held.due("all, " + kind, 1, x -> x.order(1, 0, SELL, kind, 8, 40, 1));
            held.refused("one more, " + kind, Check.STATE,
                    x -> x.order(1, 0, SELL, kind, 8, 41, 1));
            held.due("of another, " + kind, 1, x -> x.order(1, 1, SELL, kind, 8, 100, 1));
        }
    }

    /** "ORDERS get numbers 0, 1, .. as they are taken" */
    private static void ordersGetNumbers() {
        Scene some = Scene.FUNDED.then(x -> {
            plain(x, 1, SELL, 10, 5);
            x.order(1, 0, SELL, NOW, 10, 5, 0);
            x.order(2, 0, BUY, WHOLE, 10, 6, 0);
            x.order(2, 0, BUY, QUIET, 10, 6, 0);
            x.order(2, 0, BUY, STOP, 10, 6, 20);
            Check.told(() -> plain(x, 5, BUY, 1, 1));
            Check.told(() -> plain(x, 1, BUY, 0, 1));
            Check.told(() -> plain(x, 512, BUY, 1, 1));
        });
        Scene.FUNDED.due("the first", 0, x -> plain(x, 1, SELL, 10, 5));
        some.due("those cancelled at once have one, those refused none", 5,
                x -> x.order(3, 1, BUY, PLAIN, 1, 1, 0));
        some.then(x -> x.cancel(2, 4)).due("none is given again", 5,
                x -> x.order(3, 1, BUY, PLAIN, 1, 1, 0));
        some.asModel("numbers");
    }

    /** "a SIDE (0 buys, 1 sells)" */
    private static void sidesAre0And1() {
        Scene.BUSY.due("0 buys", 1000, x -> {
            x.order(1, 1, 0, PLAIN, 1, 1000, 0);
            return x.cash(1, 1);
        });
        Scene.BUSY.due("1 sells", 1000, x -> {
            x.order(1, 1, 1, PLAIN, 1, 1000, 0);
            return x.shares(1, 1, 1);
        });
        for (int side : new int[] {-1, 2, 3, LEAST, MOST}) {
            for (int kind : KINDS) {
                Scene.BUSY.refused("order, side " + side, Check.ARGUMENT,
                        x -> x.order(1, 1, side, kind, 1, 1, 1));
            }
            Scene.BUSY.refused("best, side " + side, Check.ARGUMENT, x -> x.best(0, side));
            Scene.BUSY.refused("depth, side " + side, Check.ARGUMENT, x -> x.depth(0, side, 0));
            Scene.BUSY.refused("level, side " + side, Check.ARGUMENT,
                    x -> x.level(0, side, 0, 0));
        }
    }

    /** "a price (1 .. 10000)" */
    private static void pricesAre1To10000() {
        for (int kind : KINDS) {
            for (int price : new int[] {1, 10000}) {
                Scene.RICH.due("buys at " + price, 0, x -> x.order(1, 0, BUY, kind, price, 1, 1));
                Scene.RICH.due("sells at " + price, 0, x -> x.order(2, 0, SELL, kind, price, 1, 1));
            }
            for (int price : NOT_1_TO_10000) {
                Scene.RICH.refused("buys at " + price, Check.ARGUMENT,
                        x -> x.order(1, 0, BUY, kind, price, 1, 1));
                Scene.RICH.refused("sells at " + price, Check.ARGUMENT,
                        x -> x.order(2, 0, SELL, kind, price, 1, 1));
            }
        }
        for (int price : new int[] {1, 10000}) {
            Scene traded = Scene.RICH.then(x -> {
                plain(x, 2, SELL, price, 1);
                plain(x, 1, BUY, price, 1);
            });
            traded.due("trades at " + price, price, x -> x.trade(0, 2));
            traded.due("is paid at " + price, price, x -> x.cash(2, 0));
        }
    }

    /** "an amount (1 .. 10000)" */
    private static void amountsAre1To10000() {
        for (int kind : KINDS) {
            for (int amount : new int[] {1, 10000}) {
                Scene.RICH.due("buys " + amount, 0, x -> x.order(1, 0, BUY, kind, 1, amount, 1));
                Scene.RICH.due("sells " + amount, 0, x -> x.order(2, 0, SELL, kind, 1, amount, 1));
            }
            for (int amount : NOT_1_TO_10000) {
                Scene.RICH.refused("buys " + amount, Check.ARGUMENT,
                        x -> x.order(1, 0, BUY, kind, 1, amount, 1));
                Scene.RICH.refused("sells " + amount, Check.ARGUMENT,
                        x -> x.order(2, 0, SELL, kind, 1, amount, 1));
            }
        }
        for (int amount : new int[] {1, 10000}) {
            Scene traded = Scene.RICH.then(x -> {
                plain(x, 2, SELL, 3, amount);
                plain(x, 1, BUY, 3, amount);
            });
            traded.due("trades " + amount, amount, x -> x.trade(0, 3));
            traded.state("came, " + amount, 1, 2, 0, amount);
            traded.state("rested, " + amount, 0, 2, 0, amount);
        }
    }

    /** "is of a KIND: 0 PLAIN; .. 5 a STOP" */
    private static void kindsAre0To5() {
        for (int kind : new int[] {-1, 6, 7, LEAST, MOST}) {
            for (int extra : new int[] {0, 1}) {
                Scene.RICH.refused("kind " + kind, Check.ARGUMENT,
                        x -> x.order(1, 0, BUY, kind, 1, 1, extra));
                Scene.RICH.refused("kind " + kind, Check.ARGUMENT,
                        x -> x.order(2, 0, SELL, kind, 1, 1, extra));
            }
        }
        int[] alone = {0, 3, 3, 0, 0, 1};
        for (int kind : KINDS) {
            Scene.RICH.due("in an empty book, " + kind, alone[kind], x -> {
                x.order(1, 0, BUY, kind, 1, 1, 1);
                return x.about(0, 3);
            });
        }
    }

    /** "LAYERED .. (its EXTRA, 1 .. 10000)", "a STOP with a price (its EXTRA, 1 .. 10000)" */
    private static void extrasAre1To10000() {
        for (int kind : new int[] {LAYERED, STOP}) {
            for (int extra : new int[] {1, 10000}) {
                Scene.RICH.due("buys, " + extra, 0, x -> x.order(1, 0, BUY, kind, 1, 1, extra));
                Scene.RICH.due("sells, " + extra, 0, x -> x.order(2, 0, SELL, kind, 1, 1, extra));
            }
            for (int extra : NOT_1_TO_10000) {
                Scene.RICH.refused("buys, " + extra, Check.ARGUMENT,
                        x -> x.order(1, 0, BUY, kind, 1, 1, extra));
                Scene.RICH.refused("sells, " + extra, Check.ARGUMENT,
                        x -> x.order(2, 0, SELL, kind, 1, 1, extra));
            }
        }
        for (int kind : new int[] {PLAIN, NOW, WHOLE, QUIET}) {
            for (int extra : NOT_1_TO_10000) {
                Scene.RICH.due("has no extra, " + kind, 0,
                        x -> x.order(1, 0, BUY, kind, 1, 1, extra));
            }
        }
    }

    /** "A buying order holds its price times its amount of CASH" */
    private static void buyingHoldsPriceTimesAmount() {
        for (int kind : STAYING) {
            Scene.RICH.due("least, " + kind, 1, x -> {
                x.order(1, 0, BUY, kind, 1, 1, 1);
                return x.cash(1, 1);
            });
            Scene.RICH.due("most, " + kind, 100000000, x -> {
                x.order(1, 0, BUY, kind, 10000, 10000, 1);
                return x.cash(1, 1);
            });
        }
        Scene hundred = new Scene(x -> {
            for (int i = 0; i < 10; i++) {
                x.deposit(1, 1000000000);
            }
            for (int i = 0; i < 99; i++) {
                plain(x, 1, BUY, 10000, 10000);
            }
            x.withdraw(1, 1);
        });
        hundred.due("far beyond an int", 9900000000L, x -> x.cash(1, 1));
        hundred.refused("one too few for the hundredth", Check.STATE,
                x -> plain(x, 1, BUY, 10000, 10000));
        hundred.due("just enough", 99, x -> {
            x.deposit(1, 1);
            return plain(x, 1, BUY, 10000, 10000);
        });
    }

    /** "a selling one its amount of SHARES" */
    private static void sellingHoldsItsAmount() {
        for (int kind : STAYING) {
            for (int amount : new int[] {1, 10000}) {
                Scene.RICH.due("shares, " + kind, amount, x -> {
                    x.order(2, 3, SELL, kind, 10000, amount, 1);
                    return x.shares(2, 3, 1);
                });
                Scene.RICH.due("not of another symbol", 0, x -> {
                    x.order(2, 3, SELL, kind, 10000, amount, 1);
                    return x.shares(2, 2, 1) + x.cash(2, 1);
                });
            }
        }
        Scene all = Scene.RICH.then(x -> {
            for (int i = 0; i < 100; i++) {
                x.order(2, 3, SELL, PLAIN, 1, 10000, 0);
            }
        });
        all.due("all of a million", 1000000, x -> x.shares(2, 3, 1));
    }

    /** "as long as it is there, for what is left of it" */
    private static void holdsForWhatIsLeft() {
        Scene both = Scene.FUNDED.then(x -> {
            plain(x, 1, BUY, 7, 10);
            x.order(2, 0, SELL, LAYERED, 9, 10, 3);
        });
        both.due("bought in part", 42, x -> {
            plain(x, 3, SELL, 7, 4);
            return x.cash(1, 1);
        });
        both.due("sold in part", 6, x -> {
            plain(x, 3, BUY, 9, 4);
            return x.shares(2, 0, 1);
        });
        both.due("reduced to one", 7, x -> {
            x.reduce(1, 0, 9);
            return x.cash(1, 1);
        });
        both.due("reduced to one share", 1, x -> {
            x.reduce(2, 1, 9);
            return x.shares(2, 0, 1);
        });
        both.due("cancelled", 0, x -> {
            x.cancel(1, 0);
            x.cancel(2, 1);
            return x.cash(1, 1) + x.shares(2, 0, 1);
        });
        both.due("ended", 0, x -> {
            x.until(1, 0, 1);
            x.until(2, 1, 1);
            x.pass(1);
            return x.cash(1, 1) + x.shares(2, 0, 1);
        });
        both.due("traded wholly", 0, x -> {
            plain(x, 3, SELL, 7, 10);
            plain(x, 3, BUY, 9, 10);
            return x.cash(1, 1) + x.shares(2, 0, 1);
        });
        both.due("cancelled at once", 0, x -> {
            x.order(4, 0, BUY, NOW, 8, 10, 0);
            x.order(4, 0, BUY, WHOLE, 9, 11, 0);
            x.order(4, 0, BUY, QUIET, 9, 1, 0);
            x.order(4, 0, SELL, NOW, 8, 10, 0);
            x.order(4, 0, SELL, WHOLE, 7, 11, 0);
            x.order(4, 0, SELL, QUIET, 7, 1, 0);
            return x.cash(4, 1) + x.shares(4, 0, 1);
        });
    }

    /** "At most 100 orders are there (resting or stops)" */
    private static void atMost100AreThere() {
        Scene full = Scene.FULL;
        full.due("a hundred", 100, x -> x.count(2));
        full.asModel("full");
        Scene room = full.then(x -> x.cancel(1, 0));
        for (int kind : KINDS) {
            for (int symbol : new int[] {0, 1}) {
                full.refused("one more buys, " + kind, Check.STATE,
                        x -> x.order(4, symbol, BUY, kind, 11, 1, 1));
                full.refused("one more sells, " + kind, Check.STATE,
                        x -> x.order(4, symbol, SELL, kind, 10, 1, 1));
                room.due("the hundredth buys, " + kind, 100,
                        x -> x.order(4, symbol, BUY, kind, 11, 1, 1));
                room.due("the hundredth sells, " + kind, 100,
                        x -> x.order(4, symbol, SELL, kind, 10, 1, 1));
            }
        }
        full.refused("symbols have no room of their own", Check.STATE,
                x -> x.order(4, 3, BUY, PLAIN, 1, 1, 0));
        full.due("none was taken", 100, x -> x.count(1));
    }

    /** "At most 100 orders are there": what is not there any more makes room */
    private static void roomIsMade() {
        Scene.FULL.due("one ended", 100, x -> {
            x.until(1, 2, 1);
            x.pass(1);
            return x.order(4, 0, BUY, PLAIN, 1, 1, 0);
        });
        Scene gone = Scene.FULL.then(x -> {
            x.cancel(1, 0);
            x.order(4, 1, SELL, NOW, 10, 3, 0);
        });
        gone.due("the one that came is gone, and the one that it met", 98, x -> x.count(2));
        Scene one = gone.then(x -> plain(x, 4, BUY, 1, 1));
        one.due("two have room", 102, x -> plain(x, 4, BUY, 1, 1));
        Scene two = one.then(x -> plain(x, 4, BUY, 1, 1));
        two.refused("a third has none", Check.STATE, x -> plain(x, 4, BUY, 1, 1));
    }

    /** "(resting or stops)": a hundred of one kind alone */
    private static void aHundredOfOneKind() {
        for (int kind : STAYING) {
            for (int side : new int[] {BUY, SELL}) {
                Scene all = Scene.RICH.then(x -> {
                    for (int i = 0; i < 99; i++) {
                        x.order(1 + side, 0, side, kind, 50, 2, 1);
                    }
                });
                all.due("the hundredth, " + kind, 99,
                        x -> x.order(1 + side, 0, side, kind, 50, 2, 1));
                Scene full = all.then(x -> x.order(1 + side, 0, side, kind, 50, 2, 1));
                full.refused("one more, " + kind, Check.STATE,
                        x -> x.order(1 + side, 0, side, kind, 50, 2, 1));
                full.due("a hundred, " + kind, 100, x -> x.count(2));
                full.due("in the book, " + kind, kind == STOP ? 0 : 1, x -> x.depth(0, side, 0));
            }
        }
    }

    /** "300 trades are kept" */
    private static void keeps300Trades() {
        Scene layers = Scene.FUNDED.then(x -> x.order(1, 0, SELL, LAYERED, 10, 400, 1));
        for (int n : new int[] {1, 299, 300, 301, 400}) {
            Scene traded = layers.then(x -> x.order(2, 0, BUY, NOW, 10, n, 0));
            int kept = Math.min(n, 300);
            traded.due("all count, " + n, n, x -> x.count(0));
            for (int w = 0; w < 4; w++) {
                int what = w;
                int[] due = {1, 0, 10, 1};
                traded.due("the first, " + n, due[w], x -> x.trade(0, what));
                traded.due("the last kept, " + n, due[w], x -> x.trade(kept - 1, what));
                traded.refused("behind it, " + n, Check.INDEX, x -> x.trade(kept, what));
            }
        }
        layers.refused("none", Check.INDEX, x -> x.trade(0, 0));
    }

    /** "(those behind them count, too, but are not told one by one)" */
    private static void thoseBehind300Count() {
        Scene full = Scene.FUNDED.then(x -> {
            x.order(1, 0, SELL, LAYERED, 10, 300, 1);
            x.order(2, 0, BUY, NOW, 10, 300, 0);
            x.order(3, 0, BUY, STOP, 1, 1, 12);
        });
        Scene more = full.then(x -> {
            plain(x, 1, SELL, 12, 7);
            plain(x, 4, BUY, 15, 6);
            x.order(3, 1, BUY, PLAIN, 5, 4, 0);
            x.order(1, 1, SELL, PLAIN, 5, 4, 0);
        });
        full.due("the stop waits", 1, x -> x.about(2, 3));
        more.due("count", 302, x -> x.count(0));
        more.due("not told", 1, x -> x.trade(299, 0));
        more.refused("not told", Check.INDEX, x -> x.trade(300, 0));
        more.due("paid", 1000000 - 72, x -> x.cash(4, 0));
        more.due("got", 1000000 + 3000 + 72 + 20, x -> x.cash(1, 0));
        more.due("bought", 6, x -> x.shares(4, 0, 2));
        more.due("sold", 306, x -> x.shares(1, 0, 3));
        more.due("has", 10006, x -> x.shares(4, 0, 0));
        more.due("of the order", 6, x -> x.about(4, 5));
        more.due("last price", 12, x -> x.symbol(0, 0));
        more.due("greatest", 12, x -> x.symbol(0, 1));
        more.due("least", 10, x -> x.symbol(0, 2));
        more.due("volume", 306, x -> x.symbol(0, 3));
        more.due("another symbol's first trade", 5, x -> x.symbol(1, 2));
        more.due("busiest", 4, x -> x.busiest(0, 2));
        more.due("it wakes the stop", 0, x -> x.about(2, 3));
        more.asModel("behind 300");
    }

    /** "of several exceptions the one named first is thrown": no such account, symbol, order, .. */
    private static void noSuchThingIsNamedFirst() {
        Scene busy = Scene.BUSY;
        busy.refused("deposit", Check.INDEX, x -> x.deposit(512, 0));
        busy.refused("withdraw", Check.INDEX, x -> x.withdraw(512, 0));
        busy.refused("withdraw", Check.INDEX, x -> x.withdraw(512, 1));
        busy.refused("grant", Check.INDEX, x -> x.grant(512, 0, 0));
        busy.refused("grant", Check.INDEX, x -> x.grant(1, 4, 0));
        busy.refused("cancel", Check.INDEX, x -> x.cancel(512, 0));
        busy.refused("cancel", Check.INDEX, x -> x.cancel(512, 5));
        busy.refused("cancel", Check.INDEX, x -> x.cancel(1, 9));
        busy.refused("reduce", Check.INDEX, x -> x.reduce(512, 0, 0));
        busy.refused("reduce", Check.INDEX, x -> x.reduce(512, 5, 1));
        busy.refused("reduce", Check.INDEX, x -> x.reduce(1, 9, 0));
        busy.undone("until", Check.INDEX, x -> x.until(512, 0, -1));
        busy.undone("until", Check.INDEX, x -> x.until(512, 5, 20));
        busy.undone("until", Check.INDEX, x -> x.until(1, 9, -1));
        busy.refused("best", Check.INDEX, x -> x.best(4, 2));
        busy.refused("depth", Check.INDEX, x -> x.depth(4, 2, 0));
        busy.refused("depth", Check.INDEX, x -> x.depth(4, 0, -1));
        busy.refused("level", Check.INDEX, x -> x.level(4, 2, 0, 0));
        busy.refused("level", Check.INDEX, x -> x.level(0, BUY, 2, 3));
        busy.refused("level", Check.INDEX, x -> x.level(0, BUY, -1, 3));
        busy.refused("level", Check.INDEX, x -> x.level(2, BUY, 0, -1));
        busy.refused("about", Check.INDEX, x -> x.about(9, 6));
        busy.refused("about", Check.INDEX, x -> x.about(-1, -1));
        busy.refused("cash", Check.INDEX, x -> x.cash(512, 2));
        busy.refused("shares", Check.INDEX, x -> x.shares(512, 0, 4));
        busy.refused("shares", Check.INDEX, x -> x.shares(1, 4, 4));
        busy.refused("trade", Check.INDEX, x -> x.trade(2, 4));
        busy.refused("trade", Check.INDEX, x -> x.trade(-1, -1));
        busy.refused("symbol", Check.INDEX, x -> x.symbol(4, 4));
    }

    /** "of several exceptions the one named first is thrown": another number before the state */
    private static void numbersAreNamedBeforeTheState() {
        Scene busy = Scene.BUSY;
        busy.refused("withdraw, nothing free", Check.ARGUMENT, x -> x.withdraw(5, 0));
        busy.refused("withdraw, nothing free", Check.ARGUMENT, x -> x.withdraw(5, 1000000001));
        busy.refused("cancel, another's and gone", Check.ARGUMENT, x -> x.cancel(1, 5));
        busy.refused("reduce, another's and gone", Check.ARGUMENT, x -> x.reduce(1, 5, 1));
        busy.refused("reduce, another's and too much", Check.ARGUMENT, x -> x.reduce(2, 0, 6));
        busy.refused("reduce by 0, gone", Check.ARGUMENT, x -> x.reduce(4, 5, 0));
        busy.undone("until, another's and gone", Check.ARGUMENT, x -> x.until(1, 5, 20));
        busy.undone("until, another's and past", Check.ARGUMENT, x -> x.until(2, 0, 10));
        busy.undone("until below 0, gone", Check.ARGUMENT, x -> x.until(4, 5, -1));
        busy.refused("best, no such side and empty", Check.ARGUMENT, x -> x.best(3, 2));
    }

    /** "of several exceptions the one named first is thrown": each wrong number of an order */
    private static void ordersExceptionsInTheirOrder() {
        int[][] wrong = {{2, PLAIN, 1, 1, 1}, {BUY, 6, 1, 1, 1}, {BUY, PLAIN, 0, 1, 1},
            {BUY, PLAIN, 10001, 1, 1}, {BUY, PLAIN, 1, 0, 1}, {BUY, PLAIN, 1, 10001, 1},
            {BUY, LAYERED, 1, 1, 0}, {SELL, STOP, 1, 1, 10001}};
        for (int[] n : wrong) {
            Scene.BUSY.refused("no such account first", Check.INDEX,
                    x -> x.order(512, 0, n[0], n[1], n[2], n[3], n[4]));
            Scene.BUSY.refused("no such symbol first", Check.INDEX,
                    x -> x.order(1, 4, n[0], n[1], n[2], n[3], n[4]));
            Scene.BUSY.refused("then the number, though nothing is free", Check.ARGUMENT,
                    x -> x.order(5, 0, n[0], n[1], n[2], n[3], n[4]));
            Scene.FULL.refused("then the number, though a hundred are there", Check.ARGUMENT,
                    x -> x.order(4, 0, n[0], n[1], n[2], n[3], n[4]));
        }
        Scene.BUSY.refused("no such account, nothing free", Check.INDEX,
                x -> x.order(-1, 0, SELL, PLAIN, 1, 1, 0));
        Scene.FULL.refused("no such symbol, a hundred there", Check.INDEX,
                x -> x.order(4, -1, BUY, PLAIN, 1, 1, 0));
    }

    public static void main(String[] args) {
        usedFor512Calls();
        eachCallAsThe512th();
        accountsAre0To511();
        symbolsAre0To3();
        timeIs0AtFirst();
        all0AtFirst();
        heldCashIsNotFree();
        heldSharesAreNotFree();
        ordersGetNumbers();
        sidesAre0And1();
        pricesAre1To10000();
        amountsAre1To10000();
        kindsAre0To5();
        extrasAre1To10000();
        buyingHoldsPriceTimesAmount();
        sellingHoldsItsAmount();
        holdsForWhatIsLeft();
        atMost100AreThere();
        roomIsMade();
        aHundredOfOneKind();
        keeps300Trades();
        thoseBehind300Count();
        noSuchThingIsNamedFirst();
        numbersAreNamedBeforeTheState();
        ordersExceptionsInTheirOrder();
        Check.end("TermsTest");
    }
}
