/** Promises 1 (a new object), 2 (article), 3 (bundle), 4 (publish) and 24 (price). */
public final class DraftTest {
    private static final int[] WRONG_ARTICLES = {-1, 8, 9, Integer.MIN_VALUE, Integer.MAX_VALUE};
    private static final int[] WRONG_CENTS = {-1, 10000001, Integer.MIN_VALUE, Integer.MAX_VALUE};

    public static void main(String[] args) {
        aNewObjectIsEmpty();
        pricesGoIntoBooks();
        articleRefuses();
        bundlesGoIntoBooks();
        bundleOfNoneIsNone();
        bundleRefuses();
        publishSendsTheBookToAllTills();
        publishLosesLettersWithoutRoom();
        nineBooksAtMost();
        booksStayAsTheyWere();
        priceRefuses();
        Check.end();
    }

    private static void aNewObjectIsEmpty() {
        PriceHouse x = new PriceHouse();
        Check.same("new: active", x.active(), 0);
        Check.same("new: letters", x.letters(), 0);
        for (int t = 0; t < 4; t++) {
            int till = t;
            Check.same("new: loaded", x.loaded(t), 0);
            Check.same("new: lease", x.lease(t), 0);
            Check.same("new: fetch", x.fetch(t), 0);
            Check.refusesState("new: open", () -> x.open(till));
            Check.refusesState("new: giveUp", () -> x.giveUp(till));
            Check.refusesState("new: ready", () -> x.ready(till));
        }
        Check.refusesArgument("new: activate", () -> x.activate(1));
        Check.refusesArgument("new: price", () -> x.price(1, 0));
        Check.refusesElement("new: book", () -> x.book(0));
        Check.same("new: publish", x.publish(), 1);
        for (int a = 0; a < 8; a++) {
            Check.same("new: price of an empty draft", x.price(1, a), 0);
        }
        Check.same("new: clock", new PriceHouse().tick(1), 1);
    }

    private static void pricesGoIntoBooks() {
        PriceHouse x = new PriceHouse();
        for (int a = 0; a < 8; a++) {
            x.article(a, 7 * a + 1);
        }
        x.article(3, 10000000);
        x.article(4, 0);
        x.publish();
        for (int a = 0; a < 8; a++) {
            Check.same("article " + a, x.price(1, a), a == 3 ? 10000000 : a == 4 ? 0 : 7 * a + 1);
        }
    }

    private static void articleRefuses() {
        PriceHouse x = new PriceHouse();
        x.article(0, 5);
        for (int a : WRONG_ARTICLES) {
            Check.refusesArgument("article " + a, () -> x.article(a, 5));
        }
        for (int cents : WRONG_CENTS) {
            Check.refusesArgument("article for " + cents, () -> x.article(0, cents));
        }
        x.publish();
        Check.same("a refused price", x.price(1, 0), 5);
    }

    private static void bundlesGoIntoBooks() {
        PriceHouse x = new PriceHouse();
        x.article(0, 100);
        x.article(7, 1000);
        x.bundle(0, 0, 2, 150);
        x.bundle(7, 1, 12, 10000000);
        x.bundle(7, 0, 12, 0);
        x.publish();
        Check.same("slot 0", payFor(x, 0, 2), 150);
        Check.same("an article's bundle is its own", payFor(x, 7, 2), 2000);
        Check.same("twelve", payFor(x, 7, 12), 0);
        Check.same("thirteen", payFor(x, 7, 13), 1000);

        PriceHouse y = new PriceHouse();
        y.article(0, 100);
        y.bundle(0, 0, 2, 150);
        y.bundle(0, 0, 3, 160);
        y.publish();
        Check.same("a slot has one bundle: 2", payFor(y, 0, 2), 200);
        Check.same("a slot has one bundle: 3", payFor(y, 0, 3), 160);
    }

    private static void bundleOfNoneIsNone() {
        PriceHouse x = new PriceHouse();
        x.article(0, 100);
        x.bundle(0, 0, 2, 150);
        x.bundle(0, 1, 3, 10);
        x.bundle(0, 1, 0, 10);
        x.publish();
        Check.same("slot 1 taken away", payFor(x, 0, 3), 250);
        x.bundle(0, 0, 0, 0);
        x.publish();
        x.fetch(0);
        Shop.deliverAll(x);
        x.activate(2);
        x.tick(63);
        Check.same("slot 0 taken away", payFor(x, 0, 3), 300);
    }

    private static void bundleRefuses() {
        PriceHouse x = new PriceHouse();
        x.article(0, 100);
        x.bundle(0, 0, 2, 150);
        for (int a : WRONG_ARTICLES) {
            Check.refusesArgument("bundle of article " + a, () -> x.bundle(a, 0, 2, 5));
        }
        for (int slot : new int[] {-1, 2, 3, Integer.MIN_VALUE, Integer.MAX_VALUE}) {
            Check.refusesArgument("bundle slot " + slot, () -> x.bundle(0, slot, 2, 5));
        }
        for (int n : new int[] {-1, 1, 13, 14, Integer.MIN_VALUE, Integer.MAX_VALUE}) {
            Check.refusesArgument("bundle of " + n, () -> x.bundle(0, 0, n, 5));
        }
        for (int cents : WRONG_CENTS) {
            Check.refusesArgument("bundle for " + cents, () -> x.bundle(0, 0, 2, cents));
            Check.refusesArgument("no bundle for " + cents, () -> x.bundle(0, 0, 0, cents));
        }
        x.publish();
        Check.same("refused bundles", payFor(x, 0, 2), 150);
    }

    /** What so many pieces cost in a basket of till 0 (which gets books, a lease and all letters). */
    private static long payFor(PriceHouse x, int a, int pieces) {
        Shop.deliverAll(x);
        if (x.active() == 0) {
            x.activate(1);
        }
        Shop.lend(x, 0);
        int basket = x.open(0);
        for (int k = 0; k < pieces; k++) {
            x.scan(basket, a, 1);
        }
        return x.pay(basket);
    }

    private static void publishSendsTheBookToAllTills() {
        PriceHouse x = new PriceHouse();
        Check.same("publish", x.publish(), 1);
        Check.same("publish again", x.publish(), 2);
        Check.same("letters of two books", x.letters(), 8);
        for (int i = 0; i < 8; i++) {
            Shop.letterIs("letter " + i, x, i, 0, i % 4, 1 + i / 4, 0);
        }
        Check.same("published is not loaded", x.loaded(0), 0);
        Check.same("published is not active", x.active(), 0);
    }

    private static void publishLosesLettersWithoutRoom() {
        PriceHouse x = new PriceHouse();
        x.publish();
        while (x.letters() < 38) {
            x.twin(0);
        }
        Check.same("publish with room for two", x.publish(), 2);
        Check.same("row", x.letters(), 40);
        Shop.letterIs("last but one", x, 38, 0, 0, 2, 0);
        Shop.letterIs("last", x, 39, 0, 1, 2, 0);
        Check.same("publish without room", x.publish(), 3);
        Check.same("row", x.letters(), 40);
        Check.same("the book is there", x.price(3, 0), 0);
    }

    private static void nineBooksAtMost() {
        PriceHouse x = new PriceHouse();
        for (int b = 1; b <= 9; b++) {
            Check.same("publish", x.publish(), b);
        }
        Shop.loseAll(x);
        Check.refusesState("a tenth book", () -> x.publish());
        Check.same("no letters of it", x.letters(), 0);
        Check.refusesArgument("no such book", () -> x.price(10, 0));
    }

    private static void booksStayAsTheyWere() {
        PriceHouse x = new PriceHouse();
        x.article(0, 10);
        x.article(1, 20);
        x.bundle(0, 0, 2, 5);
        x.publish();
        x.article(0, 11);
        x.bundle(0, 0, 3, 1);
        Check.same("book 1 behind a change of the draft", x.price(1, 0), 10);
        x.publish();
        Check.same("book 1", x.price(1, 0), 10);
        Check.same("book 2", x.price(2, 0), 11);
        Check.same("the draft stays", x.price(2, 1), 20);
        Check.same("book 1's bundle", payFor(x, 0, 2), 5);
    }

    private static void priceRefuses() {
        PriceHouse x = new PriceHouse();
        x.article(7, 3);
        x.publish();
        Check.same("price", x.price(1, 7), 3);
        for (int book : new int[] {0, 2, -1, Integer.MIN_VALUE, Integer.MAX_VALUE}) {
            Check.refusesArgument("price in book " + book, () -> x.price(book, 7));
        }
        for (int a : WRONG_ARTICLES) {
            Check.refusesArgument("price of " + a, () -> x.price(1, a));
        }
    }
}
