import java.util.ArrayList;
import java.util.HashSet;
import java.util.List;
import java.util.NoSuchElementException;
import java.util.Set;
import java.util.TreeSet;

/** The document told a second time, slowly and in another way, to compare TradeHall with. */
final class PlainHall implements Exchange {
    private static final class Order {
        int number, account, symbol, side, kind, price, extra, left, shown, ends, traded;
        int state = 1;
        long turn;

        boolean there() {
            return state < 2;
        }

        Order copy() {
            Order o = new Order();
            o.number = number;
            o.account = account;
            o.symbol = symbol;
            o.side = side;
            o.kind = kind;
            o.price = price;
            o.extra = extra;
            o.left = left;
            o.shown = shown;
            o.ends = ends;
            o.traded = traded;
            o.state = state;
            o.turn = turn;
            return o;
        }
    }

    private final long[] money = new long[512];
    private final int[][] stock = new int[512][4];
    private final List<Order> all = new ArrayList<>();
    private final List<int[]> trades = new ArrayList<>();
    private final Set<Integer> known = new HashSet<>();
    private long turns = 0;
    private int time = 0;

    private PlainHall twin() {
        PlainHall twin = new PlainHall();
        System.arraycopy(money, 0, twin.money, 0, 512);
        for (int a = 0; a < 512; a++) {
            twin.stock[a] = stock[a].clone();
        }
        for (Order o : all) {
            twin.all.add(o.copy());
        }
        twin.trades.addAll(trades);
        twin.turns = turns;
        return twin;
    }

    private static void account(int a) {
        if (a < 0 || a > 511) {
            throw new IndexOutOfBoundsException();
        }
    }

    private static void sym(int s) {
        if (s < 0 || s > 3) {
            throw new IndexOutOfBoundsException();
        }
    }

    private static void argument(boolean ok) {
        if (!ok) {
            throw new IllegalArgumentException();
        }
    }

    private static void state(boolean ok) {
        if (!ok) {
            throw new IllegalStateException();
        }
    }

    private Order numbered(int n) {
        if (n < 0 || n >= all.size()) {
            throw new IndexOutOfBoundsException();
        }
        return all.get(n);
    }

    private Order owned(int a, int n) {
        account(a);
        Order o = numbered(n);
        argument(o.account == a);
        return o;
    }

    @Override
    public long deposit(int a, int amount) {
        account(a);
        argument(amount >= 1 && amount <= 1000000000);
        state(money[a] + amount <= 1000000000000000L);
        known.add(a);
        return money[a] += amount;
    }

    @Override
    public long withdraw(int a, int amount) {
        account(a);
        argument(amount >= 1 && amount <= 1000000000);
        state(money[a] - cash(a, 1) >= amount);
        return money[a] -= amount;
    }

    @Override
    public int grant(int a, int s, int amount) {
        account(a);
        sym(s);
        argument(amount >= 1 && amount <= 1000000);
        state(stock[a][s] + amount <= 1000000000);
        known.add(a);
        return stock[a][s] += amount;
    }

    @Override
    public int order(int a, int s, int side, int kind, int price, int amount, int extra) {
        account(a);
        sym(s);
        argument(side == 0 || side == 1);
        argument(kind >= 0 && kind <= 5);
        argument(price >= 1 && price <= 10000 && amount >= 1 && amount <= 10000);
        argument(kind < 4 || extra >= 1 && extra <= 10000);
        if (side == 0) {
            state(money[a] - cash(a, 1) >= (long) price * amount);
        } else {
            state(stock[a][s] - shares(a, s, 1) >= amount);
        }
        state(count(2) < 100);
        if (kind == 2) {
            PlainHall twin = twin();
            Order now = twin.come(a, s, side, 1, price, amount, extra);
            twin.act(now);
            if (now.state == 3) {
                Order none = come(a, s, side, 2, price, amount, extra);
                none.left = 0;
                none.state = 3;
                wake(s);
                return none.number;
            }
        }
        Order o = come(a, s, side, kind, price, amount, extra);
        act(o);
        wake(s);
        return o.number;
    }

    private Order come(int a, int s, int side, int kind, int price, int amount, int extra) {
        Order o = new Order();
        o.number = all.size();
        o.account = a;
        o.symbol = s;
        o.side = side;
        o.kind = kind;
        o.price = price;
        o.left = amount;
        o.extra = extra;
        all.add(o);
        return o;
    }

    private List<Order> book(int s, int side) {
        List<Order> book = new ArrayList<>();
        for (Order o : all) {
            if (o.state == 0 && o.symbol == s && o.side == side) {
                book.add(o);
            }
        }
        book.sort((x, y) -> x.price != y.price
                ? (side == 0 ? y.price - x.price : x.price - y.price)
                : Long.compare(x.turn, y.turn));
        return book;
    }

    private Order facing(Order o) {
        List<Order> book = book(o.symbol, 1 - o.side);
        if (book.isEmpty()) {
            return null;
        }
        Order first = book.get(0);
        boolean allowed = o.side == 0 ? o.price >= first.price : o.price <= first.price;
        return allowed ? first : null;
    }

    private void act(Order o) {
        if (o.kind == 5) {
            return;
        }
        boolean cancelled = o.kind == 3 && facing(o) != null;
        while (o.kind != 3 && o.left > 0) {
            Order first = facing(o);
            if (first == null) {
                break;
            }
            if (first.account == o.account) {
                cancelled = true;
                break;
            }
            exchange(o, first);
        }
        if (o.left == 0) {
            o.state = 2;
        } else if (cancelled || o.kind == 1) {
            gone(o);
        } else {
            stand(o);
        }
    }

    private void exchange(Order o, Order first) {
        int n = Math.min(o.left, first.shown);
        Order buyer = o.side == 0 ? o : first;
        Order seller = o.side == 0 ? first : o;
        money[buyer.account] -= (long) n * first.price;
        money[seller.account] += (long) n * first.price;
        stock[buyer.account][o.symbol] += n;
        stock[seller.account][o.symbol] -= n;
        o.left -= n;
        o.traded += n;
        first.left -= n;
        first.traded += n;
        first.shown -= n;
        trades.add(new int[] {o.number, first.number, first.price, n});
        if (first.left == 0) {
            first.state = 2;
        } else if (first.shown == 0) {
            stand(first);
        }
    }

    private void stand(Order o) {
        o.state = 0;
        o.shown = o.kind == 4 && o.extra < o.left ? o.extra : o.left;
        o.turn = turns++;
    }

    private void gone(Order o) {
        o.left = 0;
        o.shown = 0;
        o.state = 3;
    }

    private void wake(int s) {
        boolean woken = true;
        while (woken) {
            woken = false;
            int last = symbol(s, 0);
            for (Order o : all) {
                if (!woken && last > 0 && o.state == 1 && o.symbol == s
                        && (o.side == 0 ? last >= o.extra : last <= o.extra)) {
                    o.kind = 0;
                    act(o);
                    woken = true;
                }
            }
        }
    }

    @Override
    public int cancel(int a, int n) {
        Order o = owned(a, n);
        state(o.there());
        int left = o.left;
        gone(o);
        return left;
    }

    @Override
    public int reduce(int a, int n, int less) {
        Order o = owned(a, n);
        argument(less >= 1);
        state(o.there() && o.left > less);
        int hidden = o.left - o.shown;
        if (o.state == 0) {
            o.shown -= Math.max(0, less - hidden);
        }
        o.left -= less;
        return o.left;
    }

    @Override
    public void until(int a, int n, int t) {
        Order o = owned(a, n);
        argument(t >= 0);
        state(o.there() && (t == 0 || t > time));
        o.ends = t;
    }

    @Override
    public int pass(int n) {
        argument(n >= 0 && n <= 1000000);
        time += n;
        int ended = 0;
        for (Order o : all) {
            if (o.there() && o.ends > 0 && o.ends <= time) {
                gone(o);
                ended++;
            }
        }
        return ended;
    }

    @Override
    public int best(int s, int side) {
        sym(s);
        argument(side == 0 || side == 1);
        List<Order> book = book(s, side);
        if (book.isEmpty()) {
            throw new NoSuchElementException();
        }
        return book.get(0).price;
    }

    private List<Integer> prices(int s, int side) {
        TreeSet<Integer> prices = new TreeSet<>();
        for (Order o : book(s, side)) {
            prices.add(o.price);
        }
        return new ArrayList<>(side == 0 ? prices.descendingSet() : prices);
    }

    @Override
    public int depth(int s, int side, int price) {
        sym(s);
        argument(side == 0 || side == 1);
        argument(price >= 0 && price <= 10000);
        if (price == 0) {
            return prices(s, side).size();
        }
        return book(s, side).stream().filter(o -> o.price == price).mapToInt(o -> o.shown).sum();
    }

    @Override
    public int level(int s, int side, int i, int what) {
        sym(s);
        if (i < 0) {
            throw new IndexOutOfBoundsException();
        }
        argument(side == 0 || side == 1);
        List<Integer> prices = prices(s, side);
        if (i >= prices.size()) {
            throw new IndexOutOfBoundsException();
        }
        argument(what >= 0 && what <= 2);
        int price = prices.get(i);
        if (what == 0) {
            return price;
        }
        return book(s, side).stream().filter(o -> o.price == price)
                .mapToInt(o -> what == 1 ? 1 : o.left).sum();
    }

    @Override
    public int about(int n, int what) {
        Order o = numbered(n);
        argument(what >= 0 && what <= 5);
        return new int[] {o.account, o.left, o.shown, o.state, o.ends, o.traded}[what];
    }

    @Override
    public int ahead(int n) {
        Order o = numbered(n);
        if (o.state != 0) {
            throw new NoSuchElementException();
        }
        return book(o.symbol, o.side).stream()
                .filter(x -> x.price == o.price && x.turn < o.turn).mapToInt(x -> x.shown).sum();
    }

    @Override
    public long cash(int a, int what) {
        account(a);
        argument(what == 0 || what == 1);
        if (what == 0) {
            return money[a];
        }
        return all.stream().filter(o -> o.account == a && o.side == 0 && o.there())
                .mapToLong(o -> (long) o.price * o.left).sum();
    }

    @Override
    public int shares(int a, int s, int what) {
        account(a);
        sym(s);
        argument(what >= 0 && what <= 3);
        if (what == 0) {
            return stock[a][s];
        }
        if (what == 1) {
            return all.stream()
                    .filter(o -> o.account == a && o.symbol == s && o.side == 1 && o.there())
                    .mapToInt(o -> o.left).sum();
        }
        return all.stream()
                .filter(o -> o.account == a && o.symbol == s && o.side == what - 2)
                .mapToInt(o -> o.traded).sum();
    }

    @Override
    public int count(int what) {
        argument(what >= 0 && what <= 4);
        int there = (int) all.stream().filter(Order::there).count();
        return new int[] {trades.size(), all.size(), there, known.size(), time}[what];
    }

    @Override
    public int trade(int i, int what) {
        if (i < 0 || i >= trades.size() || i >= 300) {
            throw new IndexOutOfBoundsException();
        }
        argument(what >= 0 && what <= 3);
        return trades.get(i)[what];
    }

    @Override
    public int symbol(int s, int what) {
        sym(s);
        argument(what >= 0 && what <= 3);
        int[] found = {0, 0, 0, 0};
        for (int[] t : trades) {
            if (all.get(t[0]).symbol == s) {
                found[0] = t[2];
                found[1] = Math.max(found[1], t[2]);
                found[2] = found[2] == 0 ? t[2] : Math.min(found[2], t[2]);
                found[3] += t[3];
            }
        }
        return found[what];
    }

    @Override
    public int busiest(int s, int i) {
        sym(s);
        List<int[]> found = new ArrayList<>();
        for (int a = 0; a < 512; a++) {
            int moved = shares(a, s, 2) + shares(a, s, 3);
            if (moved > 0) {
                found.add(new int[] {a, moved});
            }
        }
        found.sort((x, y) -> x[1] != y[1] ? y[1] - x[1] : x[0] - y[0]);
        if (i < 0 || i >= found.size()) {
            throw new IndexOutOfBoundsException();
        }
        return found.get(i)[0];
    }
}
