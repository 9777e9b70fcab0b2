import java.util.List;
import java.util.function.Supplier;

/**
 * Calls that bring a hall to where a test begins. Each question gets a hall of its own, made by the
 * same calls, so that none is used for more than 512.
 */
final class Scene {
    static final int BUY = 0;
    static final int SELL = 1;
    static final int PLAIN = 0;
    static final int NOW = 1;
    static final int WHOLE = 2;
    static final int QUIET = 3;
    static final int LAYERED = 4;
    static final int STOP = 5;
    static final int LEAST = Integer.MIN_VALUE;
    static final int MOST = Integer.MAX_VALUE;

    interface Calls {
        void on(Exchange x);
    }

    interface Ask {
        long of(Exchange x);
    }

    static final Scene NEW = new Scene(x -> { });

    /** Accounts 1 to 4 have a million of cash, and ten thousand shares of symbols 0 and 1. */
    static final Scene FUNDED = new Scene(x -> {
        for (int a = 1; a <= 4; a++) {
            x.deposit(a, 1000000);
            x.grant(a, 0, 10000);
            x.grant(a, 1, 10000);
        }
    });

    /**
     * Orders of each kind and state at time 10: 0, 1, 2, 6, 8 rest (0 in layers, behind 1), 3 and 4
     * are stops, 5 was traded wholly, 7 was cancelled; order 2 ends at 15.
     */
    static final Scene BUSY = FUNDED.then(x -> {
        x.order(1, 0, SELL, LAYERED, 20, 10, 4);
        x.order(2, 0, SELL, PLAIN, 20, 5, 0);
        x.order(3, 0, BUY, PLAIN, 10, 6, 0);
        x.order(3, 0, BUY, STOP, 30, 2, 25);
        x.order(4, 0, SELL, STOP, 5, 3, 8);
        x.order(4, 0, BUY, NOW, 20, 5, 0);
        x.order(2, 0, BUY, QUIET, 11, 1, 0);
        x.order(1, 1, BUY, WHOLE, 5, 5, 0);
        x.order(4, 1, SELL, PLAIN, 7, 9, 0);
        x.pass(10);
        x.until(3, 2, 15);
    });

    /** Account 1 can buy anything, account 2 can sell a million of each symbol. */
    static final Scene RICH = new Scene(x -> {
        x.deposit(1, 1000000000);
        for (int s = 0; s < 4; s++) {
            x.grant(2, s, 1000000);
        }
    });

    /** A hundred orders are there: books and stops of two symbols; account 4 has none. */
    static final Scene FULL = FUNDED.then(x -> {
        for (int i = 0; i < 100; i++) {
            int side = i % 2;
            x.order(1 + side, i / 2 % 2, side, i % 3 == 0 ? STOP : PLAIN, 10 + side, 1 + i % 5, 11);
        }
    });

    private final Calls calls;
    private List<String> told = null;

    Scene(Calls calls) {
        this.calls = calls;
    }

    Scene then(Calls more) {
        return new Scene(x -> {
            calls.on(x);
            more.on(x);
        });
    }

    Hall make() {
        Hall hall = new Hall();
        calls.on(hall);
        return hall;
    }

    PlainHall model() {
        PlainHall plain = new PlainHall();
        calls.on(plain);
        return plain;
    }

    void due(String name, long want, Ask ask) {
        Check.due(name, want, () -> ask.of(make()));
    }

    void done(String name, Calls deed) {
        Check.done(name, () -> deed.on(make()));
    }

    /** The call throws, and neither what the hall tells nor what it does then is another. */
    void refused(String name, Class<?> want, Ask ask) {
        Check.refused(name, want, () -> ask.of(make()));
        same(name + ": changed", then(x -> Check.told(() -> ask.of(x))).told(), told());
    }

    void undone(String name, Class<?> want, Calls deed) {
        refused(name, want, x -> {
            deed.on(x);
            return 0;
        });
    }

    void state(String name, int order, int state, int left, int traded) {
        due(name + ": state of " + order, state, x -> x.about(order, 3));
        due(name + ": left of " + order, left, x -> x.about(order, 1));
        due(name + ": traded of " + order, traded, x -> x.about(order, 5));
    }

    /** The whole scene, told by TradeHall and by its model alike. */
    void asModel(String name) {
        same(name + ": model", told(), all(this::model, then(Scene::sweep)::model));
    }

    private List<String> told() {
        if (told == null) {
            told = all(this::make, then(Scene::sweep)::make);
        }
        return told;
    }

    private static List<String> all(Supplier<Exchange> now, Supplier<Exchange> swept) {
        List<String> all = Told.of(now);
        all.addAll(Told.of(swept));
        return all;
    }

    /** Trades with all that rests, which shows the turns, the next number and the stops. */
    private static void sweep(Exchange x) {
        x.deposit(500, 1000000000);
        for (int s = 0; s < 4; s++) {
            int symbol = s;
            x.grant(500, symbol, 1000000);
            Check.told(() -> x.order(500, symbol, SELL, NOW, 1, 10000, 0));
            Check.told(() -> x.order(500, symbol, BUY, NOW, 10000, 10000, 0));
        }
        x.pass(5);
    }

    private static void same(String name, List<String> got, List<String> want) {
        int at = 0;
        while (at < got.size() && at < want.size() && got.get(at).equals(want.get(at))) {
            at++;
        }
        Check.same(name, lineAt(got, at), lineAt(want, at));
    }

    private static String lineAt(List<String> lines, int at) {
        return at < lines.size() ? lines.get(at) : "the end";
    }
}
