import java.util.ArrayList;
import java.util.List;
import java.util.function.Supplier;

/**
 * All that halls made alike tell, a line for each answer. A new one is made whenever the last one
 * has answered its 512 calls.
 */
final class Told {
    private static final int[] ACCOUNTS = {0, 1, 2, 3, 4, 5, 6, 500, 510, 511};

    private final Supplier<Exchange> maker;
    private final List<String> lines = new ArrayList<>();
    private Exchange asked = null;

    private Told(Supplier<Exchange> maker) {
        this.maker = maker;
    }

    static List<String> of(Supplier<Exchange> maker) {
        Told told = new Told(maker);
        told.counts();
        told.accounts();
        told.symbols();
        told.books();
        told.orders();
        told.trades();
        return told.lines;
    }

    private String ask(String question, Scene.Ask ask) {
        if (asked == null || asked instanceof Hall hall && hall.callsLeft() == 0) {
            asked = maker.get();
        }
        String answer = Check.told(() -> ask.of(asked));
        lines.add(question + ": " + answer);
        return answer;
    }

    private void counts() {
        for (int w = 0; w < 5; w++) {
            int what = w;
            ask("count " + w, x -> x.count(what));
        }
    }

    private void accounts() {
        for (int account : ACCOUNTS) {
            for (int w = 0; w < 18; w++) {
                int what = w;
                ask("account " + account + " " + w, x -> what < 2
                        ? x.cash(account, what)
                        : x.shares(account, (what - 2) / 4, (what - 2) % 4));
            }
        }
    }

    private void symbols() {
        for (int s = 0; s < 4; s++) {
            int symbol = s;
            for (int w = 0; w < 4; w++) {
                int what = w;
                ask("symbol " + s + " " + w, x -> x.symbol(symbol, what));
            }
            String answer = "";
            for (int i = 0; !answer.startsWith("throws"); i++) {
                int place = i;
                answer = ask("busiest " + s + " " + i, x -> x.busiest(symbol, place));
            }
        }
    }

    private void books() {
        for (int book = 0; book < 8; book++) {
            int symbol = book / 2;
            int side = book % 2;
            ask("best " + book, x -> x.best(symbol, side));
            ask("prices " + book, x -> x.depth(symbol, side, 0));
            String answer = "";
            for (int i = 0; !answer.startsWith("throws"); i++) {
                int level = i;
                answer = ask("price " + book + " " + i, x -> x.level(symbol, side, level, 0));
                ask("orders " + book + " " + i, x -> x.level(symbol, side, level, 1));
                ask("left " + book + " " + i, x -> x.level(symbol, side, level, 2));
                int price = answer.startsWith("throws") ? 1 : Integer.parseInt(answer);
                ask("shown " + book + " " + price, x -> x.depth(symbol, side, price));
            }
        }
    }

    private void orders() {
        String answer = "";
        for (int o = 0; !answer.startsWith("throws"); o++) {
            int order = o;
            for (int w = 0; w < 6; w++) {
                int what = w;
                answer = ask("about " + o + " " + w, x -> x.about(order, what));
            }
            ask("ahead " + o, x -> x.ahead(order));
        }
    }

    private void trades() {
        String answer = "";
        for (int t = 0; !answer.startsWith("throws"); t++) {
            int trade = t;
            for (int w = 0; w < 4; w++) {
                int what = w;
                answer = ask("trade " + t + " " + w, x -> x.trade(trade, what));
            }
        }
    }
}
