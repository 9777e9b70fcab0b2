/**
 * Each call with all that its numbers may be at an edge, one with the other, in halls that are new,
 * busy and full: the model tells the answer, or which of several exceptions is named first.
 */
public final class GridTest {
    private static final int LEAST = Scene.LEAST;
    private static final int MOST = Scene.MOST;
    private static final int[] ACCOUNTS = {LEAST, -1, 0, 1, 3, 4, 511, 512, MOST};
    private static final int[] SYMBOLS = {LEAST, -1, 0, 1, 3, 4, MOST};
    private static final int[] SIDES = {LEAST, -1, 0, 1, 2, MOST};
    private static final int[] PRICES = {LEAST, -1, 0, 1, 10, 11, 20, 9999, 10000, 10001, MOST};
    private static final int[] ORDERS = {LEAST, -1, 0, 1, 2, 3, 4, 5, 7, 8, 9, 99, 100, 512, MOST};
    private static final int[] PLACES = {LEAST, -1, 0, 1, 2, 3, 99, 100, 299, 300, 301, MOST};
    private static final int[] WHATS = {LEAST, -1, 0, 1, 2, 3, 4, 5, 6, MOST};
    private static final int[] AMOUNTS = {LEAST, -1, 0, 1, 999999, 1000000, 1000001, 999999999,
        1000000000, 1000000001, MOST};
    private static final int[] TIMES = {LEAST, -1, 0, 1, 5, 6, 9, 10, 11, 14, 15, 1000000, 1000001,
        MOST};

    private final String name;
    private final Scene scene;
    private PlainHall plain;
    private Hall hall;

    private GridTest(String name, Scene scene) {
        this.name = name;
        this.scene = scene;
        this.plain = scene.model();
        this.hall = scene.make();
    }

    /** Asks both, and answers whether the call was refused. */
    private boolean asked(Scene.Ask ask) {
        if (hall.callsLeft() == 0) {
            hall = scene.make();
        }
        String due = Check.told(() -> ask.of(plain));
        Check.same(name, Check.told(() -> ask.of(hall)), due);
        return due.startsWith("throws");
    }

    /** A call that may change something; behind it, all is compared that is cheap to ask. */
    private void changed(Scene.Ask ask) {
        if (hall.callsLeft() < 20) {
            hall = scene.make();
        }
        boolean refused = asked(ask);
        for (int w = 0; w < 5; w++) {
            int what = w;
            asked(x -> x.count(what));
        }
        for (int a = 1; a <= 4; a++) {
            int account = a;
            asked(x -> x.cash(account, 0) * 1000000 + x.cash(account, 1));
            asked(x -> x.shares(account, 0, 0) * 100000L + x.shares(account, 0, 1));
        }
        if (!refused) {
            plain = scene.model();
            hall = scene.make();
        }
    }

    private void accounts() {
        for (int a : ACCOUNTS) {
            for (int n : AMOUNTS) {
                changed(x -> x.deposit(a, n));
                changed(x -> x.withdraw(a, n));
                for (int s : SYMBOLS) {
                    changed(x -> x.grant(a, s, n));
                }
            }
            for (int what : WHATS) {
                asked(x -> x.cash(a, what));
                for (int s : SYMBOLS) {
                    asked(x -> x.shares(a, s, what));
                }
            }
        }
    }

    private void changes() {
        for (int a : new int[] {-1, 0, 1, 2, 3, 4, 511, 512}) {
            for (int o : ORDERS) {
                changed(x -> x.cancel(a, o));
                for (int n : new int[] {LEAST, -1, 0, 1, 2, 3, 4, 5, 6, 7, MOST}) {
                    changed(x -> x.reduce(a, o, n));
                }
                for (int t : TIMES) {
                    changed(x -> {
                        x.until(a, o, t);
                        return x.about(o, 4);
                    });
                }
            }
        }
        for (int n : TIMES) {
            changed(x -> x.pass(n));
        }
    }

    private void books() {
        for (int s : SYMBOLS) {
            for (int side : SIDES) {
                asked(x -> x.best(s, side));
                for (int price : PRICES) {
                    asked(x -> x.depth(s, side, price));
                }
                for (int i : PLACES) {
                    for (int what : WHATS) {
                        asked(x -> x.level(s, side, i, what));
                    }
                }
            }
        }
    }

    private void lists() {
        for (int what : WHATS) {
            asked(x -> x.count(what));
            for (int o : ORDERS) {
                asked(x -> x.about(o, what));
                asked(x -> x.ahead(o));
            }
            for (int i : PLACES) {
                asked(x -> x.trade(i, what));
            }
            for (int s : SYMBOLS) {
                asked(x -> x.symbol(s, what));
            }
        }
        for (int s : SYMBOLS) {
            for (int i : PLACES) {
                asked(x -> x.busiest(s, i));
            }
        }
    }

    private void orders() {
        int[] numbers = {0, 1, 10000, 10001};
        for (int account : new int[] {-1, 1, 5, 512}) {
            for (int symbol : new int[] {-1, 0, 1, 4}) {
                for (int side = -1; side <= 2; side++) {
                    for (int kind = -1; kind <= 6; kind++) {
                        for (int price : new int[] {0, 1, 20, 10000, 10001}) {
                            ordersOf(account, symbol, side, kind, price, numbers);
                        }
                    }
                }
            }
        }
    }

    private void ordersOf(int account, int symbol, int side, int kind, int price, int[] numbers) {
        for (int amount : numbers) {
            for (int extra : numbers) {
                changed(x -> x.order(account, symbol, side, kind, price, amount, extra));
            }
        }
    }

    private void all() {
        accounts();
        changes();
        books();
        lists();
        orders();
    }

    public static void main(String[] args) {
        new GridTest("new", Scene.NEW).all();
        new GridTest("busy", Scene.BUSY).all();
        new GridTest("full", Scene.FULL).all();
        Check.end("GridTest");
    }
}
