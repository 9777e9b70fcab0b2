/** Long runs of made-up calls, each answered by TradeHall and by PlainHall alike. */
public final class ModelTest {
    private static final int CALLS = 512;

    private final TradeHall hall = new TradeHall();
    private final PlainHall plain = new PlainHall();
    private final String name;
    private final boolean wide;
    private long seed;

    private ModelTest(int run) {
        name = "run " + run;
        wide = run % 4 == 3;
        seed = run * 7919L + 17;
    }

    private int below(int n) {
        seed = seed * 6364136223846793005L + 1442695040888963407L;
        return (int) ((seed >>> 33) % n);
    }

    /** A number from 'from' to 'to'; now and then one that is at an edge or outside. */
    private int number(int from, int to) {
        if (below(60) != 0) {
            return from + below(to - from + 1);
        }
        int[] odd = {-1, 0, 1, 4, 5, 6, 100, 300, 511, 512, 10000, 10001, 1000000, 1000001,
            1000000000, 1000000001, Integer.MIN_VALUE, Integer.MAX_VALUE};
        return odd[below(odd.length)];
    }

    private void compare(String call, Check.Call got, Check.Call want) {
        Check.same(name + ": " + call, Check.told(got), Check.told(want));
    }

    private int who() {
        return number(0, wide ? 40 : 4);
    }

    private int what() {
        return number(0, 1);
    }

    private void fund() {
        int a = who();
        int s = what();
        int n = number(1, 1000);
        if (below(2) == 0) {
            int amount = number(1, 100000);
            compare("deposit " + a, () -> hall.deposit(a, amount), () -> plain.deposit(a, amount));
        } else {
            compare("grant " + a, () -> hall.grant(a, s, n), () -> plain.grant(a, s, n));
        }
        compare("withdraw", () -> hall.withdraw(a, n), () -> plain.withdraw(a, n));
    }

    private void place() {
        int a = who();
        int s = what();
        int side = number(0, 1);
        int kind = number(0, 5);
        int price = wide ? number(1, 60) : number(1, 12);
        int amount = number(1, wide ? 5 : 30);
        int extra = kind == 4 ? number(1, 6) : number(1, 12);
        compare("order " + a + " " + s + " " + side + " " + kind + " " + price + " " + amount
                + " " + extra,
                () -> hall.order(a, s, side, kind, price, amount, extra),
                () -> plain.order(a, s, side, kind, price, amount, extra));
    }

    private int someOrder() {
        int taken = plain.count(1);
        return number(Math.max(0, taken - 40), taken);
    }

    private int ownerOf(int order) {
        return order >= 0 && order < plain.count(1) && below(10) != 0
                ? plain.about(order, 0) : who();
    }

    private void change() {
        int o = someOrder();
        int a = ownerOf(o);
        int n = number(1, 12);
        int t = below(5) == 0 ? number(-1, 1) : plain.count(4) + number(0, 30);
        switch (below(4)) {
            case 0:
                compare("cancel", () -> hall.cancel(a, o), () -> plain.cancel(a, o));
                break;
            case 1:
                compare("reduce", () -> hall.reduce(a, o, n), () -> plain.reduce(a, o, n));
                break;
            case 2:
                compare("until", () -> until(a, o, t), () -> plainUntil(a, o, t));
                break;
            default:
                compare("pass", () -> hall.pass(n - 1), () -> plain.pass(n - 1));
        }
    }

    private long until(int a, int o, int t) {
        hall.until(a, o, t);
        return 0;
    }

    private long plainUntil(int a, int o, int t) {
        plain.until(a, o, t);
        return 0;
    }

    private void look() {
        int s = what();
        int side = number(0, 1);
        int p = number(0, 12);
        int i = number(0, 6);
        int w = number(0, 5);
        int o = someOrder();
        int a = who();
        int t = number(0, Math.max(1, plain.count(0)));
        compare("best", () -> hall.best(s, side), () -> plain.best(s, side));
        compare("depth", () -> hall.depth(s, side, p), () -> plain.depth(s, side, p));
        compare("level " + s + " " + side + " " + i + " " + w,
                () -> hall.level(s, side, i, w), () -> plain.level(s, side, i, w));
        compare("about", () -> hall.about(o, w), () -> plain.about(o, w));
        compare("ahead", () -> hall.ahead(o), () -> plain.ahead(o));
        compare("cash", () -> hall.cash(a, w), () -> plain.cash(a, w));
        compare("shares", () -> hall.shares(a, s, w), () -> plain.shares(a, s, w));
        compare("count", () -> hall.count(w), () -> plain.count(w));
        compare("trade", () -> hall.trade(t, w), () -> plain.trade(t, w));
        compare("symbol", () -> hall.symbol(s, w), () -> plain.symbol(s, w));
        compare("busiest", () -> hall.busiest(s, i), () -> plain.busiest(s, i));
    }

    /** Everything that the hall can tell; at the end, since it takes far more than 512 calls. */
    private void lookAtAll() {
        for (int o = 0; o < plain.count(1); o++) {
            int order = o;
            for (int w = 0; w < 6; w++) {
                int what = w;
                compare("about", () -> hall.about(order, what), () -> plain.about(order, what));
            }
            compare("ahead", () -> hall.ahead(order), () -> plain.ahead(order));
        }
        for (int a = 0; a < 41; a++) {
            int account = a;
            for (int w = 0; w < 4; w++) {
                int what = w;
                compare("cash", () -> hall.cash(account, what), () -> plain.cash(account, what));
                compare("shares", () -> hall.shares(account, 0, what),
                        () -> plain.shares(account, 0, what));
                compare("shares", () -> hall.shares(account, 1, what),
                        () -> plain.shares(account, 1, what));
            }
        }
        for (int t = 0; t < 301; t++) {
            int trade = t;
            for (int w = 0; w < 4; w++) {
                int what = w;
                compare("trade", () -> hall.trade(trade, what), () -> plain.trade(trade, what));
            }
        }
        for (int i = 0; i < 61; i++) {
            int level = i;
            for (int w = 0; w < 6; w++) {
                int what = w;
                compare("level", () -> hall.level(what % 2, 0, level, what / 2),
                        () -> plain.level(what % 2, 0, level, what / 2));
                compare("level", () -> hall.level(what % 2, 1, level, what / 2),
                        () -> plain.level(what % 2, 1, level, what / 2));
            }
            compare("busiest", () -> hall.busiest(0, level), () -> plain.busiest(0, level));
        }
    }

    private void go() {
        for (int a = 0; a < 5; a++) {
            int account = a;
            compare("deposit", () -> hall.deposit(account, 20000),
                    () -> plain.deposit(account, 20000));
            compare("grant", () -> hall.grant(account, 0, 3000),
                    () -> plain.grant(account, 0, 3000));
            compare("grant", () -> hall.grant(account, 1, 300),
                    () -> plain.grant(account, 1, 300));
        }
        int used = 15;
        while (used < CALLS - 11) {
            int choice = below(wide ? 18 : 13);
            if (choice == 0) {
                fund();
                used += 2;
            } else if (choice == 1) {
                look();
                used += 11;
            } else if (choice < 5) {
                change();
                used++;
            } else {
                place();
                used++;
            }
        }
        lookAtAll();
    }

    public static void main(String[] args) {
        for (int run = 0; run < 160; run++) {
            new ModelTest(run).go();
        }
        Check.end("ModelTest");
    }
}
