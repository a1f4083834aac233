/** Promises 20 (open), 21 (scan), 22 (pay) and 23 (book). */
public final class BasketTest {
    private static final int[] WRONG_BASKETS = {-1, 1, 40, Integer.MIN_VALUE, Integer.MAX_VALUE};

    public static void main(String[] args) {
        openNumbersBaskets();
        openNeedsALease();
        threeOpenAtATill();
        fortyInAll();
        scanCountsPieces();
        scanRefuses();
        scanGoesOnWithoutALease();
        payClosesABasket();
        payIsTheLeast();
        payOfLargeSums();
        payIsByTheBasketsBook();
        bookTells();
        Check.end();
    }

    private static PriceHouse withLease() {
        PriceHouse x = Shop.trading(1);
        Shop.lend(x, 0);
        return x;
    }

    private static void openNumbersBaskets() {
        PriceHouse x = withLease();
        Shop.lend(x, 3);
        Check.same("open", x.open(0), 0);
        Check.same("open", x.open(3), 1);
        Check.same("open", x.open(0), 2);
        x.pay(0);
        Check.same("numbers are not used again", x.open(0), 3);
    }

    private static void openNeedsALease() {
        PriceHouse x = withLease();
        for (int till : Shop.WRONG_TILLS) {
            Check.refusesArgument("open at " + till, () -> x.open(till));
        }
        Check.refusesState("no lease", () -> x.open(1));
        x.tick(59);
        Check.same("at 59", x.open(0), 0);
        x.tick(1);
        Check.refusesState("at 60", () -> x.open(0));
        Shop.lend(x, 0);
        x.giveUp(0);
        Check.refusesState("given up", () -> x.open(0));
        Check.refusesElement("no basket was opened", () -> x.book(1));
    }

    private static void threeOpenAtATill() {
        PriceHouse x = withLease();
        Shop.lend(x, 1);
        for (int k = 0; k < 3; k++) {
            x.open(0);
        }
        Check.refusesState("a fourth", () -> x.open(0));
        Check.same("at another till", x.open(1), 3);
        x.pay(3);
        Check.refusesState("another till's was paid", () -> x.open(0));
        x.pay(1);
        Check.same("one was paid", x.open(0), 4);
        Check.refusesState("a fourth again", () -> x.open(0));
    }

    private static void fortyInAll() {
        PriceHouse x = withLease();
        Shop.lend(x, 1);
        for (int k = 0; k < 40; k++) {
            Check.same("open", x.open(k % 2), k);
            x.pay(k);
        }
        Check.refusesState("a forty-first", () -> x.open(0));
        Check.refusesState("a forty-first", () -> x.open(1));
        Check.same("the last", x.book(39), 1);
        Check.refusesElement("no more", () -> x.book(40));
    }

    private static void scanCountsPieces() {
        PriceHouse x = new PriceHouse();
        x.article(0, 1);
        x.article(7, 2);
        x.publish();
        Shop.deliverAll(x);
        x.activate(1);
        Shop.lend(x, 0);
        x.open(0);
        x.open(0);
        Check.same("one more", x.scan(0, 7, 1), 1);
        Check.same("one more", x.scan(0, 7, 1), 2);
        Check.same("another article", x.scan(0, 0, 1), 1);
        Check.same("another basket", x.scan(1, 7, 1), 1);
        Check.same("one fewer", x.scan(0, 7, -1), 1);
        Check.same("one fewer", x.scan(0, 7, -1), 0);
        Check.refusesState("-1", () -> x.scan(0, 7, -1));
        for (int k = 1; k <= 30; k++) {
            Check.same("up to 30", x.scan(0, 7, 1), k);
        }
        Check.refusesState("31", () -> x.scan(0, 7, 1));
        Check.same("29", x.scan(0, 7, -1), 29);
        Check.same("all others stay", x.pay(0), 1 + 29 * 2);
    }

    private static void scanRefuses() {
        PriceHouse x = withLease();
        x.open(0);
        for (int basket : WRONG_BASKETS) {
            Check.refusesElement("scan in basket " + basket, () -> x.scan(basket, 0, 1));
            Check.refusesElement("no basket comes first", () -> x.scan(basket, 8, 2));
        }
        for (int a : new int[] {-1, 8, Integer.MIN_VALUE, Integer.MAX_VALUE}) {
            Check.refusesArgument("scan of " + a, () -> x.scan(0, a, 1));
        }
        for (int sign : new int[] {0, 2, -2, Integer.MIN_VALUE, Integer.MAX_VALUE}) {
            Check.refusesArgument("scan by " + sign, () -> x.scan(0, 0, sign));
        }
        Check.refusesArgument("not sold", () -> x.scan(0, 1, 1));
        Check.refusesArgument("not sold comes before -1", () -> x.scan(0, 1, -1));
        x.article(1, 5);
        Check.refusesArgument("only the draft sells it", () -> x.scan(0, 1, 1));
        x.article(0, 0);
        Check.same("only the draft does not sell it", x.scan(0, 0, 1), 1);
        x.pay(0);
        Check.refusesElement("paid", () -> x.scan(0, 0, 1));
    }

    private static void scanGoesOnWithoutALease() {
        PriceHouse x = withLease();
        x.open(0);
        x.giveUp(0);
        Check.same("given up", x.scan(0, 0, 1), 1);
        x.tick(500);
        x.restart(0);
        Check.same("restarted", x.scan(0, 0, 1), 2);
        Check.same("pay", x.pay(0), 200);
    }

    private static void payClosesABasket() {
        PriceHouse x = withLease();
        x.open(0);
        for (int basket : WRONG_BASKETS) {
            Check.refusesElement("pay " + basket, () -> x.pay(basket));
        }
        Check.same("an empty basket", x.pay(0), 0);
        Check.refusesElement("paid", () -> x.pay(0));
        Check.refusesElement("paid", () -> x.scan(0, 0, 1));
        Check.same("its book", x.book(0), 1);
    }

    private static void payIsTheLeast() {
        int[][] cases = {
            {100, 3, 250, 5, 390}, {100, 4, 310, 6, 470}, {100, 2, 300, 3, 290}, {7, 2, 0, 3, 1},
            {100, 12, 1, 2, 150}, {9, 5, 45, 0, 0}, {50, 0, 0, 3, 100}, {1, 2, 10000000, 12, 11},
            {10000000, 7, 1, 11, 0}, {30, 6, 100, 6, 90}, {30, 6, 90, 6, 100}, {100, 0, 1, 0, 2},
        };
        for (int[] c : cases) {
            PriceHouse x = new PriceHouse();
            x.article(5, c[0]);
            x.bundle(5, 0, c[1], c[2]);
            x.bundle(5, 1, c[3], c[4]);
            x.publish();
            Shop.deliverAll(x);
            x.activate(1);
            Shop.lend(x, 0);
            for (int pieces = 0; pieces <= 30; pieces += 1 + pieces / 12) {
                int basket = x.open(0);
                for (int k = 0; k < pieces; k++) {
                    x.scan(basket, 5, 1);
                }
                Check.same(pieces + " pieces of " + java.util.Arrays.toString(c), x.pay(basket), least(c, pieces));
            }
        }
    }

    /** By trying all counts of both bundles. */
    private static long least(int[] c, int pieces) {
        long least = Long.MAX_VALUE;
        for (int i = 0; i == 0 || (c[1] > 0 && i * c[1] <= pieces); i++) {
            for (int j = 0; j == 0 || (c[3] > 0 && i * c[1] + j * c[3] <= pieces); j++) {
                int single = pieces - i * c[1] - j * c[3];
                least = Math.min(least, (long) i * c[2] + (long) j * c[4] + (long) single * c[0]);
            }
        }
        return least;
    }

    private static void payOfLargeSums() {
        PriceHouse x = new PriceHouse();
        for (int a = 0; a < 8; a++) {
            x.article(a, 10000000);
        }
        x.publish();
        Shop.deliverAll(x);
        x.activate(1);
        Shop.lend(x, 0);
        x.open(0);
        for (int a = 0; a < 8; a++) {
            for (int k = 0; k < 30; k++) {
                x.scan(0, a, 1);
            }
        }
        Check.same("240 pieces", x.pay(0), 2400000000L);
    }

    private static void payIsByTheBasketsBook() {
        PriceHouse x = Shop.trading(2);
        Shop.lend(x, 0);
        int old = x.open(0);
        x.scan(old, 0, 1);
        Shop.makeReady(x, 0);
        x.activate(2);
        Shop.lend(x, 0);
        int fresh = x.open(0);
        x.scan(fresh, 0, 1);
        x.scan(old, 0, 1);
        x.article(0, 9);
        Check.same("by book 1", x.pay(old), 200);
        Check.same("by book 2", x.pay(fresh), 200);
        Check.same("book", x.book(old), 1);
        Check.same("book", x.book(fresh), 2);
    }

    private static void bookTells() {
        PriceHouse x = withLease();
        Check.refusesElement("none yet", () -> x.book(0));
        x.open(0);
        Check.same("open", x.book(0), 1);
        x.pay(0);
        Check.same("paid", x.book(0), 1);
        for (int basket : WRONG_BASKETS) {
            Check.refusesElement("book of " + basket, () -> x.book(basket));
        }
    }
}
