import java.util.Random;

/**
 * Made-up runs like ModelTest's, but each run with a mix of its own: one account or some, one symbol
 * or all, prices close together or at the greatest, one kind more often than the others. Made from
 * the run's number, so that a run can be had again; `java MixTest 6000` makes more of them.
 */
public final class MixTest {
    private static final int RUNS = 300;

    private final Hall hall = new Hall();
    private final PlainHall plain = new PlainHall();
    private final String name;
    private final Random source;
    private final int accounts;
    private final int symbols;
    private final int prices;
    private final int lowest;
    private final int amounts;
    private final int oftenKind;

    private MixTest(int run) {
        name = "mix " + run + ": ";
        source = new Random(run * 31L + 7);
        accounts = 1 + below(5);
        symbols = 1 + below(4);
        prices = 1 + below(10);
        lowest = below(3) == 0 ? 10001 - prices : 1 + below(3) * 50;
        amounts = 1 + below(25);
        oftenKind = below(6);
    }

    private int below(int n) {
        return source.nextInt(n);
    }

    private void ask(String call, Scene.Ask ask) {
        if (hall.callsLeft() > 0) {
            Check.same(name + call, Check.told(() -> ask.of(hall)),
                    Check.told(() -> ask.of(plain)));
        }
    }

    private void fund() {
        for (int a = 0; a < accounts; a++) {
            int account = a;
            int cash = below(4) == 0 ? 1 + below(500) : 100000000;
            ask("deposit", x -> x.deposit(account, cash));
            for (int s = 0; s < symbols; s++) {
                int symbol = s;
                int shares = below(4) == 0 ? 1 + below(20) : 10000;
                ask("grant", x -> x.grant(account, symbol, shares));
            }
        }
    }

    private void place() {
        int account = below(accounts);
        int symbol = below(symbols);
        int side = below(2);
        int kind = below(3) == 0 ? oftenKind : below(6);
        int price = lowest + below(prices);
        int amount = 1 + below(amounts);
        int extra = kind == Scene.STOP ? lowest + below(prices) : 1 + below(6);
        ask("order", x -> x.order(account, symbol, side, kind, price, amount, extra));
    }

    private int someOrder() {
        int taken = plain.count(1);
        return taken == 0 ? 0 : taken - 1 - below(Math.min(taken, 60));
    }

    private void change() {
        int order = someOrder();
        boolean own = plain.count(1) > 0 && below(12) != 0;
        int account = own ? plain.about(order, 0) : below(accounts);
        int n = 1 + below(amounts);
        int time = below(5) == 0 ? below(3) - 1 : plain.count(4) + below(20);
        switch (below(5)) {
            case 0:
                ask("cancel", x -> x.cancel(account, order));
                break;
            case 1:
                ask("until", x -> {
                    x.until(account, order, time);
                    return 0;
                });
                break;
            case 2:
                ask("pass", x -> x.pass(n % 6));
                break;
            default:
                ask("reduce", x -> x.reduce(account, order, n));
        }
    }

    private void lookAtBooks() {
        int symbol = below(symbols);
        int side = below(2);
        int price = below(6) == 0 ? 0 : lowest + below(prices);
        int i = below(5);
        int what = below(4);
        int order = someOrder();
        switch (below(5)) {
            case 0:
                ask("best", x -> x.best(symbol, side));
                break;
            case 1:
                ask("depth", x -> x.depth(symbol, side, price));
                break;
            case 2:
                ask("ahead", x -> x.ahead(order));
                break;
            default:
                ask("level", x -> x.level(symbol, side, i, what));
        }
    }

    private void lookAtOthers() {
        int account = below(accounts);
        int symbol = below(symbols);
        int order = someOrder();
        int what = below(6);
        int i = below(5);
        int trade = below(plain.count(0) + 1);
        switch (below(6)) {
            case 0:
                ask("about", x -> x.about(order, what));
                break;
            case 1:
                ask("cash", x -> x.cash(account, what % 3));
                break;
            case 2:
                ask("shares", x -> x.shares(account, symbol, what));
                break;
            case 3:
                ask("trade", x -> x.trade(trade, what));
                break;
            case 4:
                ask("symbol", x -> x.symbol(symbol, what));
                break;
            default:
                ask("busiest", x -> x.busiest(symbol, i));
        }
    }

    private void go() {
        fund();
        while (hall.callsLeft() > 0) {
            int choice = below(20);
            if (choice < 11) {
                place();
            } else if (choice < 16) {
                change();
            } else if (choice < 18) {
                lookAtBooks();
            } else {
                lookAtOthers();
            }
        }
    }

    public static void main(String[] args) {
        int runs = args.length > 0 ? Integer.parseInt(args[0]) : RUNS;
        for (int run = 0; run < runs; run++) {
            new MixTest(run).go();
        }
        Check.end("MixTest");
    }
}
