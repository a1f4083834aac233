/** Promises 20 to 25, baskets, prices and restarts: one test for each sentence, or for a part of it. */
public final class Promises20To25EdgeTest {
    private static final String NO_OPEN_BASKET = "NoSuchElementException if there is no such open basket";

    public static void main(String[] args) {
        Check.promise(20, "A basket is opened at a till, under its lease: its number.",
                Promises20To25EdgeTest::openUnderALease);
        Check.promise(20, "IllegalArgumentException if there is no such till", Promises20To25EdgeTest::openAtNoTill);
        Check.promise(20, "IllegalStateException if it has no valid lease", Promises20To25EdgeTest::openWithoutALease);
        Check.promise(20, "three open ones", Promises20To25EdgeTest::openAFourth);
        Check.promise(20, "or there are forty", Promises20To25EdgeTest::openAFortyFirst);

        Check.promise(21, "One piece more (sign 1) or fewer (-1) of an article in a basket",
                Promises20To25EdgeTest::scanCounts);
        Check.promise(21, "(whatever became of the till's lease)", Promises20To25EdgeTest::scanWithoutALease);
        Check.promise(21, "how many it has of it", Promises20To25EdgeTest::scanTellsHowMany);
        Check.promise(21, NO_OPEN_BASKET, Promises20To25EdgeTest::scanInNoBasket);
        Check.promise(21, "IllegalArgumentException if there is no such article",
                Promises20To25EdgeTest::scanOfNoArticle);
        Check.promise(21, "or sign", Promises20To25EdgeTest::scanByNoSign);
        Check.promise(21, "or its book does not sell it", Promises20To25EdgeTest::scanOfWhatIsNotSold);
        Check.promise(21, "IllegalStateException if there would be 31", Promises20To25EdgeTest::scanOfA31st);
        Check.promise(21, "or -1", Promises20To25EdgeTest::scanBelowNone);

        Check.promise(22, "A basket is paid, and open no more", Promises20To25EdgeTest::payCloses);
        Check.promise(22, "how much", Promises20To25EdgeTest::payTellsHowMuch);
        Check.promise(22, NO_OPEN_BASKET, Promises20To25EdgeTest::payOfNoBasket);

        Check.promise(23, "A basket's book (open or paid).", Promises20To25EdgeTest::bookTells);
        Check.promise(23, "NoSuchElementException if there was no such basket",
                Promises20To25EdgeTest::bookOfNoBasket);

        Check.promise(24, "A book's price of an article (0: it is not sold).", Promises20To25EdgeTest::priceTells);
        Check.promise(24, "IllegalArgumentException if there is no such book", Promises20To25EdgeTest::priceInNoBook);
        Check.promise(24, "or article", Promises20To25EdgeTest::priceOfNoArticle);

        Check.promise(25, "A till (0 .. 3; its open baskets stay)", Promises20To25EdgeTest::restartOfATill);
        Check.promise(25, "or the desk (4) restarts", Promises20To25EdgeTest::restartOfTheDesk);
        Check.promise(25, "IllegalArgumentException if there is none such", Promises20To25EdgeTest::restartOfNone);
        Check.end();
    }

    private static void openUnderALease() {
        PriceHouse x = Shop.withBooks(3);
        x.activate(2);
        Shop.lend(x, 3);
        Check.same("the first", x.open(3), 0);
        Check.same("of the lease's book", x.book(0), 2);
        x.tick(59);
        Check.same("at the end of the lease", x.open(3), 1);
        Check.same("it begins empty", x.pay(1), 0);
        Check.same("its number is used up", x.open(3), 2);
    }

    private static void openAtNoTill() {
        PriceHouse x = Shop.trading(1);
        for (int t = 0; t <= 3; t++) {
            Shop.lend(x, t);
        }
        for (int till : Shop.outside(0, 3)) {
            Check.refusesArgument("till " + till, () -> x.open(till));
        }
        Check.same("the first till", x.open(0), 0);
        Check.same("the last till", x.open(3), 1);
    }

    private static void openWithoutALease() {
        PriceHouse x = Shop.trading(2);
        Check.refusesState("nothing was asked", () -> x.open(0));
        x.ask(0);
        x.deliver(0);
        Check.refusesState("GRANT is on its way", () -> x.open(0));
        x.deliver(0);
        Check.refusesState("another till's lease", () -> x.open(1));
        x.tick(60);
        Check.refusesState("it ran out", () -> x.open(0));
        Shop.lend(x, 0);
        x.giveUp(0);
        Check.refusesState("given up", () -> x.open(0));
        Shop.lend(x, 0);
        x.restart(0);
        Check.refusesState("restarted", () -> x.open(0));
        Shop.lend(x, 0);
        Check.same("no refused call used a number", x.open(0), 0);
        x.ready(0);
        Check.refusesState("ready for a greater book", () -> x.open(0));
    }

    private static void openAFourth() {
        PriceHouse x = Shop.selling(1);
        for (int k = 0; k < 3; k++) {
            Check.same("up to three", x.open(0), k);
        }
        Check.refusesState("a fourth", () -> x.open(0));
        x.pay(2);
        Check.same("one is paid, and no number was used", x.open(0), 3);
        Check.refusesState("a fourth", () -> x.open(0));
    }

    private static void openAFortyFirst() {
        PriceHouse x = Shop.selling(1);
        for (int k = 0; k < 40; k++) {
            Check.same("up to forty", x.open(0), k);
            x.pay(k);
        }
        Check.refusesState("a forty-first", () -> x.open(0));
        Check.refusesElement("no basket 40", () -> x.book(40));
        Check.same("the lease is there", x.lease(0), 1);
    }

    private static void scanCounts() {
        PriceHouse x = new PriceHouse();
        x.article(0, 1);
        x.article(7, 10);
        Shop.opened(x);
        x.open(0);
        x.open(0);
        Check.same("one more", x.scan(0, 7, 1), 1);
        Check.same("one more", x.scan(0, 7, 1), 2);
        Check.same("another article", x.scan(0, 0, 1), 1);
        Check.same("another basket", x.scan(1, 7, 1), 1);
        Check.same("one fewer", x.scan(0, 7, -1), 1);
        Check.same("what is paid", x.pay(0), 11);
        Check.same("the other basket", x.scan(1, 7, -1), 0);
    }

    private static void scanWithoutALease() {
        PriceHouse x = Shop.trading(2);
        Shop.lend(x, 0);
        x.open(0);
        x.tick(60);
        Check.same("it ran out", x.scan(0, 0, 1), 1);
        Shop.lend(x, 0);
        x.giveUp(0);
        Check.same("given up", x.scan(0, 0, 1), 2);
        x.restart(0);
        Check.same("restarted", x.scan(0, 0, 1), 3);
        Shop.makeReady(x, 0);
        Check.same("ready for a greater book", x.scan(0, 0, 1), 4);
        x.tick(63);
        x.activate(2);
        Shop.lend(x, 0);
        Check.same("another lease", x.lease(0), 2);
        Check.same("another lease", x.scan(0, 0, -1), 3);
        Check.same("paid by its own book", x.pay(0), 300);
    }

    private static void scanTellsHowMany() {
        PriceHouse x = Shop.selling(1);
        x.open(0);
        for (int k = 1; k <= 30; k++) {
            Check.same("up", x.scan(0, 0, 1), k);
        }
        for (int k = 29; k >= 0; k--) {
            Check.same("down", x.scan(0, 0, -1), k);
        }
        Check.same("nothing is left to pay", x.pay(0), 0);
    }

    private static void scanInNoBasket() {
        PriceHouse x = Shop.selling(1);
        Check.refusesElement("none is open", () -> x.scan(0, 0, 1));
        x.open(0);
        x.open(0);
        for (int basket : Shop.outside(0, 1)) {
            Check.refusesElement("basket " + basket, () -> x.scan(basket, 0, 1));
            Check.refusesElement("basket " + basket + " and no article", () -> x.scan(basket, 8, 1));
        }
        x.pay(0);
        Check.refusesElement("paid", () -> x.scan(0, 0, 1));
        Check.refusesElement("paid, and no sign", () -> x.scan(0, 0, 0));
        Check.same("open", x.scan(1, 0, 1), 1);
    }

    private static void scanOfNoArticle() {
        PriceHouse x = new PriceHouse();
        x.article(0, 1);
        x.article(7, 1);
        Shop.opened(x);
        x.open(0);
        for (int a : Shop.outside(0, 7)) {
            Check.refusesArgument("one more of " + a, () -> x.scan(0, a, 1));
            Check.refusesArgument("one fewer of " + a, () -> x.scan(0, a, -1));
        }
        Check.same("the first", x.scan(0, 0, 1), 1);
        Check.same("the last", x.scan(0, 7, 1), 1);
    }

    private static void scanByNoSign() {
        PriceHouse x = Shop.selling(1);
        x.open(0);
        x.scan(0, 0, 1);
        x.scan(0, 0, 1);
        for (int sign : new int[] {0, 2, -2, Integer.MIN_VALUE, Integer.MAX_VALUE}) {
            Check.refusesArgument("sign " + sign, () -> x.scan(0, 0, sign));
        }
        Check.same("a refused call changes nothing", x.scan(0, 0, 1), 3);
        Check.same("fewer", x.scan(0, 0, -1), 2);
    }

    private static void scanOfWhatIsNotSold() {
        PriceHouse x = new PriceHouse();
        x.article(0, 1);
        x.bundle(1, 0, 2, 1);
        x.publish();
        x.article(0, 0);
        x.article(1, 1);
        x.publish();
        Shop.deliverAll(x);
        x.activate(1);
        Shop.lend(x, 0);
        x.open(0);
        Check.same("for a cent", x.scan(0, 0, 1), 1);
        Check.refusesArgument("for nothing", () -> x.scan(0, 1, 1));
        Check.refusesArgument("for nothing, one fewer", () -> x.scan(0, 1, -1));
        x.tick(63);
        x.activate(2);
        Shop.lend(x, 0);
        x.open(0);
        Check.same("by the basket's book, not by the active one", x.scan(0, 0, 1), 2);
        Check.refusesArgument("by the basket's book, not by the active one", () -> x.scan(0, 1, 1));
        Check.same("the other book", x.scan(1, 1, 1), 1);
        Check.refusesArgument("the other book", () -> x.scan(1, 0, 1));
    }

    private static void scanOfA31st() {
        PriceHouse x = new PriceHouse();
        x.article(0, 1);
        x.article(1, 1);
        Shop.opened(x);
        x.open(0);
        for (int k = 1; k <= 30; k++) {
            Check.same("up to 30", x.scan(0, 0, 1), k);
        }
        Check.refusesState("31", () -> x.scan(0, 0, 1));
        Check.same("another article", x.scan(0, 1, 1), 1);
        Check.same("a refused call changes nothing", x.scan(0, 0, -1), 29);
        Check.same("30 again", x.scan(0, 0, 1), 30);
        Check.refusesState("31 again", () -> x.scan(0, 0, 1));
        Check.same("what is paid", x.pay(0), 31);
    }

    private static void scanBelowNone() {
        PriceHouse x = Shop.selling(1);
        x.open(0);
        Check.refusesState("-1 at first", () -> x.scan(0, 0, -1));
        Check.same("one", x.scan(0, 0, 1), 1);
        Check.same("none", x.scan(0, 0, -1), 0);
        Check.refusesState("-1", () -> x.scan(0, 0, -1));
        Check.same("a refused call changes nothing", x.scan(0, 0, 1), 1);
    }

    private static void payCloses() {
        PriceHouse x = Shop.selling(5);
        x.open(0);
        x.open(0);
        x.scan(0, 0, 1);
        Check.same("pay", x.pay(0), 5);
        Check.refusesElement("no more pieces", () -> x.scan(0, 0, 1));
        Check.refusesElement("nor fewer", () -> x.scan(0, 0, -1));
        Check.refusesElement("not paid twice", () -> x.pay(0));
        Check.same("the other basket is open", x.scan(1, 0, 1), 1);
        x.open(0);
        x.open(0);
        Check.refusesState("three are open again", () -> x.open(0));
    }

    private static void payTellsHowMuch() {
        PriceHouse x = new PriceHouse();
        for (int a = 0; a <= 7; a++) {
            x.article(a, 10000000);
        }
        Shop.opened(x);
        Check.same("an empty basket", x.pay(x.open(0)), 0);
        int basket = x.open(0);
        for (int a = 0; a <= 7; a++) {
            for (int k = 0; k < 30; k++) {
                x.scan(basket, a, 1);
            }
        }
        Check.same("as full and as dear as can be", x.pay(basket), 2400000000L);

        PriceHouse y = Shop.trading(2);
        Shop.lend(y, 0);
        int old = y.open(0);
        y.scan(old, 0, 1);
        y.tick(63);
        y.activate(2);
        y.article(0, 7);
        Check.same("by its own book", y.pay(old), 100);
    }

    private static void payOfNoBasket() {
        PriceHouse x = Shop.selling(1);
        Check.refusesElement("none is open", () -> x.pay(0));
        x.open(0);
        x.open(0);
        for (int basket : Shop.outside(0, 1)) {
            Check.refusesElement("basket " + basket, () -> x.pay(basket));
        }
        x.pay(1);
        Check.refusesElement("paid", () -> x.pay(1));
        x.pay(0);
        Check.refusesElement("paid", () -> x.pay(0));
        for (int k = 2; k < 5; k++) {
            x.open(0);
        }
        Check.refusesState("a refused call does not close one", () -> x.open(0));
    }

    private static void bookTells() {
        PriceHouse x = Shop.trading(2);
        Shop.lend(x, 0);
        x.open(0);
        Check.same("open", x.book(0), 1);
        x.tick(63);
        x.activate(2);
        Check.same("another book is active", x.book(0), 1);
        Shop.lend(x, 0);
        x.open(0);
        Check.same("the other book", x.book(1), 2);
        x.pay(0);
        Check.same("paid", x.book(0), 1);
        x.pay(1);
        Check.same("paid", x.book(1), 2);
    }

    private static void bookOfNoBasket() {
        PriceHouse x = Shop.selling(1);
        Check.refusesElement("there was none", () -> x.book(0));
        x.open(0);
        x.open(0);
        for (int basket : Shop.outside(0, 1)) {
            Check.refusesElement("basket " + basket, () -> x.book(basket));
        }
        Check.same("the first", x.book(0), 1);
        Check.same("the last", x.book(1), 1);
    }

    private static void priceTells() {
        PriceHouse x = new PriceHouse();
        x.article(0, 1);
        x.article(7, 10000000);
        x.publish();
        x.article(0, 0);
        x.publish();
        Check.same("the least that sells", x.price(1, 0), 1);
        Check.same("the most", x.price(1, 7), 10000000);
        Check.same("never sold", x.price(1, 1), 0);
        Check.same("sold no more", x.price(2, 0), 0);
        Check.same("the other book", x.price(2, 7), 10000000);
    }

    private static void priceInNoBook() {
        PriceHouse x = new PriceHouse();
        x.article(0, 5);
        Check.refusesArgument("there is none", () -> x.price(1, 0));
        for (int last = 1; last <= 9; last++) {
            x.publish();
            Check.same("the first", x.price(1, 0), 5);
            Check.same("the last", x.price(last, 0), 5);
            for (int book : Shop.outside(1, last)) {
                Check.refusesArgument("book " + book + " of " + last, () -> x.price(book, 0));
            }
        }
    }

    private static void priceOfNoArticle() {
        PriceHouse x = new PriceHouse();
        x.article(0, 5);
        x.article(7, 6);
        x.publish();
        x.publish();
        for (int a : Shop.outside(0, 7)) {
            Check.refusesArgument("article " + a, () -> x.price(1, a));
            Check.refusesArgument("article " + a, () -> x.price(2, a));
        }
        Check.same("the first", x.price(2, 0), 5);
        Check.same("the last", x.price(2, 7), 6);
    }

    private static void restartOfATill() {
        for (int till = 0; till <= 3; till++) {
            PriceHouse x = Shop.trading(1);
            int t = till;
            Shop.lend(x, t);
            for (int k = 0; k < 3; k++) {
                x.open(t);
                x.scan(k, 0, 1);
            }
            x.restart(t);
            Check.same("the lease", x.lease(t), 0);
            Shop.lend(x, t);
            Check.refusesState("three are open", () -> x.open(t));
            for (int k = 0; k < 3; k++) {
                Check.same("its pieces", x.scan(k, 0, 1), 2);
                Check.same("its price", x.pay(k), 200);
            }
            Check.same("the next basket", x.open(t), 3);
        }
    }

    private static void restartOfTheDesk() {
        PriceHouse x = Shop.trading(1);
        Shop.lend(x, 0);
        x.open(0);
        x.restart(4);
        Check.same("the active book", x.active(), 1);
        Check.same("a till's lease", x.lease(0), 1);
        Check.same("a till may open baskets", x.open(0), 1);
        Check.same("an open basket", x.scan(0, 0, 1), 1);
        Shop.lend(x, 1);
        Check.same("askings are not answered", x.lease(1), 0);
        x.tick(63);
        Shop.lend(x, 1);
        Check.same("till it waits no more", x.lease(1), 1);
    }

    private static void restartOfNone() {
        PriceHouse x = Shop.trading(1);
        for (int t = 0; t <= 3; t++) {
            Shop.lend(x, t);
        }
        for (int who : Shop.outside(0, 4)) {
            Check.refusesArgument("restart of " + who, () -> x.restart(who));
        }
        Check.same("the first till", x.lease(0), 1);
        Check.same("the last till", x.lease(3), 1);
        Shop.lend(x, 0);
        Check.same("the desk does not wait", x.lease(0), 1);
    }
}
