/** Runs of calls that many tests begin with. */
final class Shop {
    static final int[] WRONG_TILLS = {-1, 4, 5, Integer.MIN_VALUE, Integer.MAX_VALUE};

    private Shop() {
    }

    /** Books 1 .. n, article 0 sold in each for 100 times its number; all tills have them all. */
    static PriceHouse withBooks(int n) {
        PriceHouse x = new PriceHouse();
        for (int b = 1; b <= n; b++) {
            x.article(0, 100 * b);
            x.publish();
            deliverAll(x);
        }
        return x;
    }

    /** The same, and book 1 is active. */
    static PriceHouse trading(int n) {
        PriceHouse x = withBooks(n);
        x.activate(1);
        return x;
    }

    /** Delivers the row and what comes of it, the first letter first. */
    static void deliverAll(PriceHouse x) {
        for (int k = 0; k < 200 && x.letters() > 0; k++) {
            x.deliver(0);
        }
    }

    static void loseAll(PriceHouse x) {
        while (x.letters() > 0) {
            x.lose(0);
        }
    }

    /** A till asks, and all letters arrive. */
    static void lend(PriceHouse x, int till) {
        x.ask(till);
        deliverAll(x);
    }

    /** A till tells that it is ready, and all letters arrive. */
    static void makeReady(PriceHouse x, int till) {
        x.ready(till);
        deliverAll(x);
    }

    static void fillRow(PriceHouse x) {
        while (x.letters() < 40) {
            x.twin(0);
        }
    }

    static void letterIs(String what, PriceHouse x, int i, int kind, int till, int book, int asking) {
        Check.same(what + ": kind", x.letter(i, 0), kind);
        Check.same(what + ": till", x.letter(i, 1), till);
        Check.same(what + ": book", x.letter(i, 2), book);
        Check.same(what + ": asking", x.letter(i, 3), asking);
    }
}
