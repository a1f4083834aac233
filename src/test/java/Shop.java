/** Runs of calls that many tests begin with. */
final class Shop {
    static final int[] WRONG_TILLS = {-1, 4, 5, Integer.MIN_VALUE, Integer.MAX_VALUE};

    private Shop() {
    }

    /** The first numbers that are refused on both sides of a range, and the farthest. */
    static int[] outside(int least, int most) {
        return new int[] {least - 1, most + 1, Integer.MIN_VALUE, Integer.MAX_VALUE};
    }

    /** Books 1 .. n, article 0 sold in each for 100 times its number; all tills have them all. */
    static PriceHouse withBooks(int n) {
        PriceHouse x = new PriceHouse();
        for (int b = 1; b <= n; b++) {
            x.article(0, 100 * b);
            x.publish();
            deliverAll(x);
        }
        return x;
    }

    /** The same, and book 1 is active. */
    static PriceHouse trading(int n) {
        PriceHouse x = withBooks(n);
        x.activate(1);
        return x;
    }

    /** Book 1 sells article 0 for a price, is active, and till 0 has a lease of it. */
    static PriceHouse selling(int price) {
        PriceHouse x = new PriceHouse();
        x.article(0, price);
        return opened(x);
    }

    /** The same with two bundles. */
    static PriceHouse selling(int price, int n0, int cents0, int n1, int cents1) {
        PriceHouse x = new PriceHouse();
        x.article(0, price);
        x.bundle(0, 0, n0, cents0);
        x.bundle(0, 1, n1, cents1);
        return opened(x);
    }

    /** The first book is published and active, all tills have it, and till 0 has a lease of it. */
    static PriceHouse opened(PriceHouse x) {
        x.publish();
        deliverAll(x);
        x.activate(1);
        lend(x, 0);
        return x;
    }

    /** What so many pieces cost in a basket of till 0, which has a lease. */
    static long paidFor(PriceHouse x, int a, int pieces) {
        int basket = x.open(0);
        for (int k = 0; k < pieces; k++) {
            x.scan(basket, a, 1);
        }
        return x.pay(basket);
    }

    /** Delivers the row and what comes of it, the first letter first. */
    static void deliverAll(PriceHouse x) {
        for (int k = 0; k < 200 && x.letters() > 0; k++) {
            x.deliver(0);
        }
    }

    static void loseAll(PriceHouse x) {
        while (x.letters() > 0) {
            x.lose(0);
        }
    }

    /** A till asks, and all letters arrive. */
    static void lend(PriceHouse x, int till) {
        x.ask(till);
        deliverAll(x);
    }

    /** A till tells that it is ready, and all letters arrive. */
    static void makeReady(PriceHouse x, int till) {
        x.ready(till);
        deliverAll(x);
    }

    /** The same, but only its own letter arrives. */
    static void makeReadyOnly(PriceHouse x, int till) {
        x.ready(till);
        x.deliver(x.letters() - 1);
    }

    static void fillRow(PriceHouse x) {
        while (x.letters() < 40) {
            x.twin(0);
        }
    }

    static void letterIs(String what, PriceHouse x, int i, int kind, int till, int book, int asking) {
        Check.same(what + ": kind", x.letter(i, 0), kind);
        Check.same(what + ": till", x.letter(i, 1), till);
        Check.same(what + ": book", x.letter(i, 2), book);
        Check.same(what + ": asking", x.letter(i, 3), asking);
    }
}
