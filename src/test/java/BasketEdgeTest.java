/** "Terms: BASKETS" and what is paid: one test for each sentence that names an edge, or for a part of it. */
public final class BasketEdgeTest {
    public static void main(String[] args) {
        Check.sentence("BASKETS are numbered 0, 1, ..", BasketEdgeTest::numbered);
        Check.sentence("(at most 40 in all)", BasketEdgeTest::fortyInAll);
        Check.sentence("at most 3 open at a till", BasketEdgeTest::threeAtATill);
        Check.sentence("For each article", BasketEdgeTest::eachArticle);
        Check.sentence("the least", BasketEdgeTest::theLeast);
        Check.sentence("that any choice of bundles and single pieces makes", BasketEdgeTest::anyChoice);
        Check.sentence("for just as many pieces is paid", BasketEdgeTest::justAsManyPieces);
        Check.end();
    }

    private static void numbered() {
        PriceHouse x = Shop.selling(1);
        Shop.lend(x, 3);
        Check.refusesElement("none yet", () -> x.book(0));
        Check.same("the first", x.open(3), 0);
        Check.same("the second", x.open(0), 1);
        x.pay(0);
        Check.same("a number is not used again", x.open(3), 2);
        Check.refusesElement("no more", () -> x.book(3));
    }

    private static void fortyInAll() {
        PriceHouse x = Shop.selling(1);
        Shop.lend(x, 1);
        for (int k = 0; k < 39; k++) {
            Check.same("open", x.open(k % 2), k);
            x.pay(k);
        }
        Check.same("the fortieth", x.open(0), 39);
        Check.refusesState("one more", () -> x.open(0));
        x.pay(39);
        Check.refusesState("one more, though all are paid", () -> x.open(0));
        Check.refusesState("one more at another till", () -> x.open(1));
        Check.same("the last one's book", x.book(39), 1);
    }

    private static void threeAtATill() {
        PriceHouse x = Shop.selling(1);
        for (int t = 1; t <= 3; t++) {
            Shop.lend(x, t);
        }
        for (int k = 0; k < 12; k++) {
            Check.same("three at each till", x.open(k / 3), k);
        }
        for (int t = 0; t <= 3; t++) {
            int till = t;
            Check.refusesState("a fourth at till " + t, () -> x.open(till));
        }
        x.pay(4);
        Check.refusesState("another till's was paid", () -> x.open(0));
        Check.same("its own was paid", x.open(1), 12);
        Check.refusesState("a fourth again", () -> x.open(1));
        Shop.lend(x, 1);
        Check.refusesState("those of the lease before count", () -> x.open(1));
    }

    private static void eachArticle() {
        PriceHouse x = new PriceHouse();
        for (int a = 0; a <= 7; a++) {
            x.article(a, 10 + a);
        }
        x.bundle(0, 0, 2, 1);
        x.bundle(7, 1, 2, 2);
        Shop.opened(x);
        x.open(0);
        for (int a = 0; a <= 7; a++) {
            x.scan(0, a, 1);
        }
        Check.same("one piece of each makes no bundle", x.pay(0), 108);
        x.open(0);
        for (int a = 0; a <= 7; a++) {
            x.scan(1, a, 1);
            x.scan(1, a, 1);
        }
        Check.same("two pieces of each", x.pay(1), 1 + 22 + 24 + 26 + 28 + 30 + 32 + 2);
    }

    private static void theLeast() {
        PriceHouse x = Shop.selling(100, 2, 201, 3, 300);
        Check.same("single pieces are cheaper than the bundle", Shop.paidFor(x, 0, 2), 200);
        Check.same("a bundle that is as dear", Shop.paidFor(x, 0, 3), 300);
        PriceHouse y = Shop.selling(100, 2, 199, 0, 0);
        Check.same("the bundle is a cent cheaper", Shop.paidFor(y, 0, 2), 199);
        PriceHouse z = Shop.selling(100, 5, 7, 5, 6);
        Check.same("slot 1 is cheaper", Shop.paidFor(z, 0, 5), 6);
        PriceHouse w = Shop.selling(100, 5, 6, 5, 7);
        Check.same("slot 0 is cheaper", Shop.paidFor(w, 0, 5), 6);
        PriceHouse v = Shop.selling(100, 2, 0, 0, 0);
        Check.same("a bundle for nothing", Shop.paidFor(v, 0, 30), 0);
        Check.same("and one piece", Shop.paidFor(v, 0, 29), 100);
    }

    private static void anyChoice() {
        PriceHouse x = Shop.selling(100, 4, 310, 6, 450);
        Check.same("4 + 4, not the cheaper 6 first", Shop.paidFor(x, 0, 8), 620);
        Check.same("6 + 1", Shop.paidFor(x, 0, 7), 550);
        Check.same("4 + 6", Shop.paidFor(x, 0, 10), 760);
        Check.same("6 + 6 + 6 + 6 + 6", Shop.paidFor(x, 0, 30), 2250);
        Check.same("4 + 6 + 6 + 6 + 6 + 1", Shop.paidFor(x, 0, 29), 2210);
        PriceHouse y = Shop.selling(100, 6, 450, 4, 310);
        Check.same("the slots the other way round", Shop.paidFor(y, 0, 8), 620);
        PriceHouse z = Shop.selling(10000000, 12, 10000000, 7, 9999999);
        Check.same("7 + 7 + 7 + 7 + 1 + 1, not 12 first", Shop.paidFor(z, 0, 30), 59999996);
    }

    private static void justAsManyPieces() {
        PriceHouse x = Shop.selling(100, 3, 1, 12, 0);
        Check.same("no piece", Shop.paidFor(x, 0, 0), 0);
        Check.same("one piece", Shop.paidFor(x, 0, 1), 100);
        Check.same("two pieces: no bundle of 3 for a cent", Shop.paidFor(x, 0, 2), 200);
        Check.same("three pieces", Shop.paidFor(x, 0, 3), 1);
        Check.same("eleven pieces: no bundle of 12 for nothing", Shop.paidFor(x, 0, 11), 203);
        Check.same("twelve pieces", Shop.paidFor(x, 0, 12), 0);
        Check.same("thirteen pieces", Shop.paidFor(x, 0, 13), 100);
    }
}
