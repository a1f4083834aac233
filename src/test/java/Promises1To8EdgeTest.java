/** Promises 1 to 8, the draft, the books, changes and clocks: one test for each sentence, or for a part of it. */
public final class Promises1To8EdgeTest {
    private static final int MOST = 10000000;

    public static void main(String[] args) {
        Check.promise(1, "No books", Promises1To8EdgeTest::noBooks);
        Check.promise(1, "an empty draft", Promises1To8EdgeTest::anEmptyDraft);

        Check.promise(2, "The draft's price of an article.", Promises1To8EdgeTest::articleSetsAPrice);
        Check.promise(2, "IllegalArgumentException if there is no such article",
                Promises1To8EdgeTest::articleOfNoArticle);
        Check.promise(2, "or cents is not 0 .. 10000000", Promises1To8EdgeTest::articleForWrongCents);

        Check.promise(3, "A bundle of the draft", Promises1To8EdgeTest::bundleIsSet);
        Check.promise(3, "(n = 0: none)", Promises1To8EdgeTest::bundleOfNone);
        Check.promise(3, "IllegalArgumentException if there is no such article",
                Promises1To8EdgeTest::bundleOfNoArticle);
        Check.promise(3, "or slot", Promises1To8EdgeTest::bundleInNoSlot);
        Check.promise(3, "n is neither 0 nor 2 .. 12", Promises1To8EdgeTest::bundleOfWrongSize);
        Check.promise(3, "or cents is not 0 .. 10000000", Promises1To8EdgeTest::bundleForWrongCents);

        Check.promise(4, "The draft (which stays, and may be changed without changing books)",
                Promises1To8EdgeTest::publishKeepsTheDraft);
        Check.promise(4, "becomes a book: its number.", Promises1To8EdgeTest::publishMakesABook);
        Check.promise(4, "BOOK goes to all tills.", Promises1To8EdgeTest::publishTellsAllTills);
        Check.promise(4, "IllegalStateException if there are nine.", Promises1To8EdgeTest::publishOfATenth);

        Check.promise(5, "A change to a book begins", Promises1To8EdgeTest::activateBeginsAChange);
        Check.promise(5, "(also in place of one to a lesser one)", Promises1To8EdgeTest::activateInPlaceOfALesser);
        Check.promise(5, "IllegalArgumentException if there is no such book", Promises1To8EdgeTest::activateNoBook);
        Check.promise(5, "IllegalStateException if it is not above the active one",
                Promises1To8EdgeTest::activateNotAboveTheActive);
        Check.promise(5, "and that of a change under way", Promises1To8EdgeTest::activateNotAboveTheChange);

        Check.promise(6, "The active book", Promises1To8EdgeTest::activeTells);
        Check.promise(6, "0 if there is none yet", Promises1To8EdgeTest::activeTellsOfNone);

        Check.promise(7, "Ticks (1 .. 500) go by: the desk's clock then.", Promises1To8EdgeTest::tickGoesOn);
        Check.promise(7, "IllegalArgumentException for other numbers.", Promises1To8EdgeTest::tickOfWrongNumbers);

        Check.promise(8, "A clock's rate from now on.", Promises1To8EdgeTest::rateFromNowOn);
        Check.promise(8, "IllegalArgumentException if there is no such clock", Promises1To8EdgeTest::rateOfNoClock);
        Check.promise(8, "or rate", Promises1To8EdgeTest::wrongRate);
        Check.end();
    }

    private static void noBooks() {
        PriceHouse x = new PriceHouse();
        Check.refusesArgument("price", () -> x.price(1, 0));
        Check.refusesArgument("activate", () -> x.activate(1));
        for (int t = 0; t <= 3; t++) {
            Check.same("loaded", x.loaded(t), 0);
            Check.same("fetch", x.fetch(t), 0);
        }
        Check.same("active", x.active(), 0);
        Check.same("letters", x.letters(), 0);
        Check.same("the first", x.publish(), 1);
    }

    private static void anEmptyDraft() {
        PriceHouse x = new PriceHouse();
        x.publish();
        for (int a = 0; a <= 7; a++) {
            Check.same("price of article " + a, x.price(1, a), 0);
            x.article(a, 1);
        }
        x.publish();
        Shop.deliverAll(x);
        x.activate(2);
        Shop.lend(x, 0);
        x.open(0);
        for (int a = 0; a <= 7; a++) {
            for (int k = 0; k < 12; k++) {
                x.scan(0, a, 1);
            }
        }
        Check.same("no bundles", x.pay(0), 8 * 12);
    }

    private static void articleSetsAPrice() {
        PriceHouse x = new PriceHouse();
        for (int a = 0; a <= 7; a++) {
            x.article(a, 10 + a);
        }
        x.article(3, 5);
        x.article(4, 0);
        x.publish();
        for (int a = 0; a <= 7; a++) {
            Check.same("article " + a, x.price(1, a), a == 3 ? 5 : a == 4 ? 0 : 10 + a);
        }
    }

    private static void articleOfNoArticle() {
        PriceHouse x = new PriceHouse();
        x.article(0, 1);
        x.article(7, 8);
        for (int a : Shop.outside(0, 7)) {
            Check.refusesArgument("article " + a, () -> x.article(a, 5));
        }
        x.publish();
        Check.same("the first", x.price(1, 0), 1);
        Check.same("the last", x.price(1, 7), 8);
    }

    private static void articleForWrongCents() {
        PriceHouse x = new PriceHouse();
        x.article(0, 0);
        x.article(1, MOST);
        x.article(2, 3);
        for (int cents : Shop.outside(0, MOST)) {
            Check.refusesArgument("for " + cents, () -> x.article(2, cents));
        }
        x.publish();
        Check.same("the least", x.price(1, 0), 0);
        Check.same("the most", x.price(1, 1), MOST);
        Check.same("a refused call changes nothing", x.price(1, 2), 3);
    }

    private static void bundleIsSet() {
        PriceHouse x = new PriceHouse();
        x.article(0, 100);
        x.article(7, 100);
        x.bundle(0, 0, 2, 1);
        x.bundle(0, 0, 3, 2);
        x.bundle(7, 1, 2, 3);
        Shop.opened(x);
        Check.same("a second bundle takes the first one's slot", Shop.paidFor(x, 0, 2), 200);
        Check.same("the second bundle", Shop.paidFor(x, 0, 3), 2);
        Check.same("another article's", Shop.paidFor(x, 7, 2), 3);
        Check.same("not the other article's", Shop.paidFor(x, 7, 3), 103);
    }

    private static void bundleOfNone() {
        for (int slot = 0; slot <= 1; slot++) {
            PriceHouse x = new PriceHouse();
            x.article(0, 100);
            x.bundle(0, 0, 2, 1);
            x.bundle(0, 1, 3, 1);
            x.bundle(0, slot, 0, slot * MOST);
            Shop.opened(x);
            Check.same("two, none in slot " + slot, Shop.paidFor(x, 0, 2), slot == 0 ? 200 : 1);
            Check.same("three, none in slot " + slot, Shop.paidFor(x, 0, 3), slot == 0 ? 1 : 101);
        }
    }

    private static void bundleOfNoArticle() {
        PriceHouse x = new PriceHouse();
        x.article(0, 100);
        x.article(7, 100);
        x.bundle(0, 0, 2, 1);
        x.bundle(7, 1, 2, 2);
        for (int a : Shop.outside(0, 7)) {
            Check.refusesArgument("article " + a, () -> x.bundle(a, 0, 2, 5));
            Check.refusesArgument("article " + a, () -> x.bundle(a, 1, 2, 5));
            Check.refusesArgument("article " + a + ", none", () -> x.bundle(a, 1, 0, 0));
        }
        Shop.opened(x);
        Check.same("the first", Shop.paidFor(x, 0, 2), 1);
        Check.same("the last", Shop.paidFor(x, 7, 2), 2);
    }

    private static void bundleInNoSlot() {
        PriceHouse x = new PriceHouse();
        for (int a = 0; a <= 2; a++) {
            x.article(a, 100);
        }
        x.bundle(1, 0, 2, 1);
        x.bundle(1, 1, 3, 2);
        for (int slot : Shop.outside(0, 1)) {
            Check.refusesArgument("slot " + slot, () -> x.bundle(1, slot, 2, 0));
            Check.refusesArgument("slot " + slot + ", none", () -> x.bundle(1, slot, 0, 0));
        }
        Shop.opened(x);
        Check.same("slot 0", Shop.paidFor(x, 1, 2), 1);
        Check.same("slot 1", Shop.paidFor(x, 1, 3), 2);
        Check.same("the article before", Shop.paidFor(x, 0, 2), 200);
        Check.same("the article behind", Shop.paidFor(x, 2, 2), 200);
    }

    private static void bundleOfWrongSize() {
        PriceHouse x = new PriceHouse();
        x.article(0, 100);
        x.article(1, 100);
        x.article(2, 100);
        x.bundle(0, 0, 2, 1);
        x.bundle(0, 1, 12, 0);
        for (int n : new int[] {-1, 1, 13, Integer.MIN_VALUE, Integer.MAX_VALUE}) {
            Check.refusesArgument("of " + n, () -> x.bundle(0, 0, n, 0));
            Check.refusesArgument("of " + n, () -> x.bundle(1, 0, n, 0));
        }
        x.bundle(2, 0, 2, 3);
        x.bundle(2, 0, 0, 0);
        Shop.opened(x);
        Check.same("2", Shop.paidFor(x, 0, 2), 1);
        Check.same("12", Shop.paidFor(x, 0, 12), 0);
        Check.same("0", Shop.paidFor(x, 2, 2), 200);
        Check.same("a refused call changes nothing", Shop.paidFor(x, 1, 13), 1300);
    }

    private static void bundleForWrongCents() {
        PriceHouse x = new PriceHouse();
        x.article(0, MOST);
        x.bundle(0, 0, 2, MOST);
        x.bundle(0, 1, 3, 0);
        for (int cents : Shop.outside(0, MOST)) {
            Check.refusesArgument("for " + cents, () -> x.bundle(0, 0, 2, cents));
            Check.refusesArgument("none for " + cents, () -> x.bundle(0, 1, 0, cents));
        }
        Shop.opened(x);
        Check.same("the most", Shop.paidFor(x, 0, 2), MOST);
        Check.same("the least", Shop.paidFor(x, 0, 3), 0);
    }

    private static void publishKeepsTheDraft() {
        PriceHouse x = new PriceHouse();
        x.article(0, 10);
        x.article(1, 20);
        x.bundle(1, 0, 2, 5);
        x.publish();
        x.article(0, 11);
        Check.same("the book does not change", x.price(1, 0), 10);
        x.publish();
        Check.same("nor when the next is published", x.price(1, 0), 10);
        Check.same("a price that was changed", x.price(2, 0), 11);
        Check.same("a price that stays", x.price(2, 1), 20);
        Shop.deliverAll(x);
        x.activate(2);
        Shop.lend(x, 0);
        Check.same("a bundle that stays", Shop.paidFor(x, 1, 2), 5);
    }

    private static void publishMakesABook() {
        PriceHouse x = new PriceHouse();
        Check.same("an empty draft", x.publish(), 1);
        x.article(7, 3);
        Check.same("a changed draft", x.publish(), 2);
        Check.same("an unchanged draft", x.publish(), 3);
        Check.same("book 1", x.price(1, 7), 0);
        Check.same("book 2", x.price(2, 7), 3);
        Check.same("book 3", x.price(3, 7), 3);
        Check.same("it is not active", x.active(), 0);
        Check.same("nor at any till", x.loaded(0), 0);
    }

    private static void publishTellsAllTills() {
        PriceHouse x = new PriceHouse();
        x.publish();
        Check.same("letters", x.letters(), 4);
        for (int t = 0; t <= 3; t++) {
            Shop.letterIs("to till " + t, x, t, 0, t, 1, 0);
        }
        while (x.letters() < 38) {
            x.twin(0);
        }
        Check.same("with room for two", x.publish(), 2);
        Check.same("letters", x.letters(), 40);
        Shop.letterIs("last but one", x, 38, 0, 0, 2, 0);
        Shop.letterIs("last", x, 39, 0, 1, 2, 0);
        Check.same("without room", x.publish(), 3);
        Check.same("letters", x.letters(), 40);
        Check.same("the book is there", x.price(3, 0), 0);
    }

    private static void publishOfATenth() {
        PriceHouse x = new PriceHouse();
        for (int b = 1; b <= 8; b++) {
            x.publish();
        }
        Shop.loseAll(x);
        Check.same("the ninth", x.publish(), 9);
        Check.same("its letters", x.letters(), 4);
        x.article(0, 1);
        Check.refusesState("a tenth", () -> x.publish());
        Check.same("no letters of it", x.letters(), 4);
        Check.same("book 9 is as it was", x.price(9, 0), 0);
        Check.refusesArgument("no book 10", () -> x.price(10, 0));
        Check.refusesState("a tenth once more", () -> x.publish());
    }

    private static void activateBeginsAChange() {
        PriceHouse x = Shop.trading(2);
        Shop.lend(x, 0);
        x.activate(2);
        Check.same("it begins, and has not ended", x.active(), 1);
        x.ask(1);
        x.deliver(0);
        Check.same("no answer in a change", x.letters(), 0);
        x.tick(63);
        Check.same("it has ended", x.active(), 2);
    }

    private static void activateInPlaceOfALesser() {
        PriceHouse x = Shop.trading(3);
        Shop.lend(x, 0);
        x.activate(2);
        x.activate(3);
        Check.same("held up", x.active(), 1);
        x.tick(63);
        Check.same("book 3, not 2", x.active(), 3);

        PriceHouse y = Shop.trading(2);
        Shop.lend(y, 0);
        y.activate(2);
        y.ready(0);
        y.publish();
        y.activate(3);
        Shop.deliverAll(y);
        Check.same("ready for book 2 is not enough any more", y.active(), 1);
        Shop.makeReady(y, 0);
        Check.same("ready for book 3", y.active(), 3);
    }

    private static void activateNoBook() {
        PriceHouse x = new PriceHouse();
        Check.refusesArgument("there is none", () -> x.activate(1));
        x.publish();
        x.publish();
        for (int book : Shop.outside(1, 2)) {
            Check.refusesArgument("book " + book, () -> x.activate(book));
        }
        Check.same("no change", x.active(), 0);
        x.activate(1);
        Check.same("the first", x.active(), 1);
        for (int book : Shop.outside(1, 2)) {
            Check.refusesArgument("book " + book + " with an active one", () -> x.activate(book));
        }
        x.activate(2);
        Check.same("the last", x.active(), 2);
    }

    private static void activateNotAboveTheActive() {
        PriceHouse x = Shop.withBooks(3);
        x.activate(2);
        Check.refusesState("below it", () -> x.activate(1));
        Check.refusesState("the active one", () -> x.activate(2));
        Check.same("a refused call changes nothing", x.active(), 2);
        Shop.lend(x, 0);
        Check.same("no change is under way", x.lease(0), 2);
        x.tick(63);
        x.activate(3);
        Check.same("above it", x.active(), 3);
    }

    private static void activateNotAboveTheChange() {
        PriceHouse x = Shop.trading(4);
        Shop.lend(x, 0);
        x.activate(3);
        Check.refusesState("above the active one, below that of the change", () -> x.activate(2));
        Check.refusesState("that of the change", () -> x.activate(3));
        Check.refusesState("the active one", () -> x.activate(1));
        x.tick(63);
        Check.same("the change goes on", x.active(), 3);

        PriceHouse y = Shop.trading(4);
        Shop.lend(y, 0);
        y.activate(3);
        y.activate(4);
        y.tick(63);
        Check.same("above that of the change", y.active(), 4);
    }

    private static void activeTells() {
        PriceHouse x = Shop.withBooks(9);
        x.activate(1);
        Check.same("the least", x.active(), 1);
        Shop.lend(x, 0);
        x.activate(9);
        Check.same("in a change", x.active(), 1);
        x.tick(63);
        Check.same("the greatest", x.active(), 9);
        x.restart(4);
        Check.same("behind a restart", x.active(), 9);
    }

    private static void activeTellsOfNone() {
        PriceHouse x = new PriceHouse();
        Check.same("no books", x.active(), 0);
        x.publish();
        Check.same("a book, but no change", x.active(), 0);
        x.restart(4);
        x.activate(1);
        Check.same("a change that has not ended", x.active(), 0);
        x.tick(62);
        Check.same("a change that has not ended", x.active(), 0);
        x.tick(1);
        Check.same("a change that has ended", x.active(), 1);
    }

    private static void tickGoesOn() {
        PriceHouse x = new PriceHouse();
        Check.same("the least", x.tick(1), 1);
        Check.same("the most", x.tick(500), 501);
        x.rate(0, 99);
        Check.same("the desk's clock, not a till's", x.tick(499), 1000);
        x.rate(4, 99);
        Check.same("the desk's clock, not true time", x.tick(500), 1495);
    }

    private static void tickOfWrongNumbers() {
        PriceHouse x = Shop.trading(1);
        Shop.lend(x, 0);
        for (int n : Shop.outside(1, 500)) {
            Check.refusesArgument("tick " + n, () -> x.tick(n));
        }
        Check.same("a till's clock has not gone on", x.lease(0), 1);
        Check.same("nor has the desk's", x.tick(1), 1);
    }

    private static void rateFromNowOn() {
        PriceHouse x = new PriceHouse();
        x.tick(100);
        x.rate(4, 101);
        Check.same("101", x.tick(100), 201);
        x.rate(4, 99);
        Check.same("99", x.tick(100), 300);
        x.rate(4, 100);
        Check.same("100", x.tick(100), 400);

        PriceHouse y = Shop.trading(1);
        Shop.lend(y, 3);
        y.tick(50);
        y.rate(3, 99);
        y.tick(10);
        Check.same("a till at 59.90", y.lease(3), 1);
        y.tick(1);
        Check.same("a till at 60.89", y.lease(3), 0);
        Shop.lend(y, 3);
        y.rate(3, 101);
        y.tick(59);
        Check.same("a till that asked at 60.89, at 120.48", y.lease(3), 0);
    }

    private static void rateOfNoClock() {
        PriceHouse x = new PriceHouse();
        for (int who = 0; who <= 4; who++) {
            x.rate(who, 100);
        }
        for (int who : Shop.outside(0, 4)) {
            Check.refusesArgument("clock " + who, () -> x.rate(who, 99));
        }
        Check.same("a refused call changes nothing", x.tick(100), 100);
    }

    private static void wrongRate() {
        PriceHouse x = new PriceHouse();
        for (int who = 0; who <= 4; who++) {
            int clock = who;
            x.rate(who, 99);
            x.rate(who, 101);
            for (int percent : Shop.outside(99, 101)) {
                Check.refusesArgument("rate " + percent, () -> x.rate(clock, percent));
            }
        }
        Check.same("a refused call changes nothing", x.tick(100), 101);
    }
}
