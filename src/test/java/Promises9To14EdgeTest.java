/** Promises 9 to 14, the calls of tills: one test for each sentence, or for a part of it. */
public final class Promises9To14EdgeTest {
    private static final String NO_TILL = "IllegalArgumentException if there is no such till";

    public static void main(String[] args) {
        Check.promise(9, "BOOK letters of all books that a till has not come into the row, upward",
                Promises9To14EdgeTest::fetchSendsWhatIsMissing);
        Check.promise(9, "how many it has not (letters without room counted)",
                Promises9To14EdgeTest::fetchCountsLettersWithoutRoom);
        Check.promise(9, NO_TILL, Promises9To14EdgeTest::fetchOfNoTill);

        Check.promise(10, "A till is ready for the greatest book that it has, and tells it by READY: this book.",
                Promises9To14EdgeTest::readyTells);
        Check.promise(10, NO_TILL, Promises9To14EdgeTest::readyOfNoTill);
        Check.promise(10, "IllegalStateException if it has none", Promises9To14EdgeTest::readyWithoutABook);

        Check.promise(11, "A till asks for a lease by ASK: the asking.", Promises9To14EdgeTest::askTells);
        Check.promise(11, NO_TILL, Promises9To14EdgeTest::askOfNoTill);

        Check.promise(12, "A till gives its latest asking (or lease) up, and tells it by GIVEN.",
                Promises9To14EdgeTest::giveUpTells);
        Check.promise(12, NO_TILL, Promises9To14EdgeTest::giveUpOfNoTill);
        Check.promise(12, "IllegalStateException if it has asked for none", Promises9To14EdgeTest::giveUpOfNoAsking);
        Check.promise(12, "or has given it up", Promises9To14EdgeTest::giveUpTwice);

        Check.promise(13, "The book of a till's valid lease", Promises9To14EdgeTest::leaseTells);
        Check.promise(13, "0 if it has none", Promises9To14EdgeTest::leaseTellsOfNone);
        Check.promise(13, NO_TILL, Promises9To14EdgeTest::leaseOfNoTill);

        Check.promise(14, "How many books a till has.", Promises9To14EdgeTest::loadedTells);
        Check.promise(14, NO_TILL, Promises9To14EdgeTest::loadedOfNoTill);
        Check.end();
    }

    private static void fetchSendsWhatIsMissing() {
        PriceHouse x = Shop.withBooks(1);
        for (int b = 2; b <= 9; b++) {
            x.publish();
            Shop.loseAll(x);
        }
        Check.same("eight are missing", x.fetch(2), 8);
        Check.same("letters", x.letters(), 8);
        for (int i = 0; i < 8; i++) {
            Shop.letterIs("letter " + i, x, i, 0, 2, 2 + i, 0);
        }
        Shop.deliverAll(x);
        Check.same("all have come", x.loaded(2), 9);
        Check.same("nothing is missing", x.fetch(2), 0);
        Check.same("letters", x.letters(), 0);
        Check.same("another till", x.loaded(1), 1);
    }

    private static void fetchCountsLettersWithoutRoom() {
        PriceHouse x = new PriceHouse();
        Check.same("no books", x.fetch(3), 0);
        for (int b = 1; b <= 9; b++) {
            x.publish();
        }
        Check.same("room for four of nine", x.fetch(3), 9);
        Check.same("letters", x.letters(), 40);
        Shop.letterIs("the last with room", x, 39, 0, 3, 4, 0);
        Check.same("no room", x.fetch(3), 9);
        Check.same("letters", x.letters(), 40);
        x.deliver(3);
        Check.same("one has come", x.fetch(3), 8);
        Shop.letterIs("the first that it has not", x, 39, 0, 3, 2, 0);
    }

    private static void fetchOfNoTill() {
        PriceHouse x = new PriceHouse();
        x.publish();
        Shop.loseAll(x);
        for (int till : Shop.outside(0, 3)) {
            Check.refusesArgument("till " + till, () -> x.fetch(till));
        }
        Check.same("no letters", x.letters(), 0);
        Check.same("the first till", x.fetch(0), 1);
        Check.same("the last till", x.fetch(3), 1);
    }

    private static void readyTells() {
        PriceHouse x = Shop.withBooks(1);
        Check.same("book 1", x.ready(3), 1);
        Shop.letterIs("READY", x, 0, 3, 3, 1, 0);
        x.lose(0);
        x.publish();
        x.publish();
        Check.same("books on their way", x.ready(3), 1);
        x.lose(8);
        Shop.deliverAll(x);
        Check.same("the greatest", x.ready(3), 3);
        Check.same("once more", x.ready(3), 3);
        Check.same("letters", x.letters(), 2);
        Shop.letterIs("READY", x, 1, 3, 3, 3, 0);

        PriceHouse y = Shop.trading(2);
        Shop.lend(y, 0);
        Shop.lend(y, 1);
        y.ask(2);
        Shop.fillRow(y);
        Check.same("without room", y.ready(0), 2);
        Check.same("letters", y.letters(), 40);
        Check.same("it is ready all the same", y.lease(0), 0);
        Check.same("another till is not", y.lease(1), 1);
    }

    private static void readyOfNoTill() {
        PriceHouse x = Shop.withBooks(1);
        for (int till : Shop.outside(0, 3)) {
            Check.refusesArgument("till " + till, () -> x.ready(till));
        }
        Check.same("no letters", x.letters(), 0);
        Check.same("the first till", x.ready(0), 1);
        Check.same("the last till", x.ready(3), 1);
    }

    private static void readyWithoutABook() {
        PriceHouse x = new PriceHouse();
        Check.refusesState("no books at all", () -> x.ready(0));
        x.publish();
        Check.refusesState("the book is on its way", () -> x.ready(0));
        Check.same("no READY", x.letters(), 4);
        x.deliver(0);
        Check.same("the book has come", x.ready(0), 1);
        Check.refusesState("but not to another till", () -> x.ready(1));
    }

    private static void askTells() {
        PriceHouse x = Shop.trading(1);
        Check.same("the first", x.ask(3), 1);
        Check.same("letters", x.letters(), 1);
        Shop.letterIs("ASK", x, 0, 1, 3, 0, 1);
        Check.same("the second", x.ask(3), 2);
        Shop.letterIs("ASK", x, 1, 1, 3, 0, 2);
        Shop.fillRow(x);
        Check.same("without room", x.ask(3), 3);
        Check.same("letters", x.letters(), 40);
        Shop.deliverAll(x);
        Check.same("no GRANT for an ASK that is lost", x.lease(3), 0);

        PriceHouse y = new PriceHouse();
        Check.same("without any book", y.ask(0), 1);
        Shop.letterIs("ASK", y, 0, 1, 0, 0, 1);
    }

    private static void askOfNoTill() {
        PriceHouse x = Shop.trading(1);
        for (int till : Shop.outside(0, 3)) {
            Check.refusesArgument("till " + till, () -> x.ask(till));
        }
        Check.same("no letters", x.letters(), 0);
        Check.same("the first till", x.ask(0), 1);
        Check.same("the last till", x.ask(3), 1);
    }

    private static void giveUpTells() {
        PriceHouse x = Shop.trading(1);
        Shop.lend(x, 2);
        x.giveUp(2);
        Check.same("the lease is given up", x.lease(2), 0);
        Check.same("letters", x.letters(), 1);
        Shop.letterIs("GIVEN", x, 0, 4, 2, 0, 1);
        x.ask(2);
        x.ask(2);
        x.giveUp(2);
        Shop.letterIs("GIVEN of the latest asking", x, 3, 4, 2, 0, 3);
        Shop.deliverAll(x);
        Check.same("an asking without a lease is given up", x.lease(2), 0);

        PriceHouse y = Shop.trading(1);
        Shop.lend(y, 0);
        y.tick(60);
        y.giveUp(0);
        Shop.letterIs("a lease that ran out is given up", y, 0, 4, 0, 0, 1);
        Shop.lend(y, 1);
        y.ask(3);
        Shop.fillRow(y);
        y.giveUp(1);
        Check.same("without room", y.letters(), 40);
        Check.same("it is given up all the same", y.lease(1), 0);
    }

    private static void giveUpOfNoTill() {
        PriceHouse x = Shop.trading(1);
        for (int t = 0; t <= 3; t++) {
            Shop.lend(x, t);
        }
        for (int till : Shop.outside(0, 3)) {
            Check.refusesArgument("till " + till, () -> x.giveUp(till));
        }
        Check.same("no letters", x.letters(), 0);
        Check.same("the first till's lease", x.lease(0), 1);
        Check.same("the last till's lease", x.lease(3), 1);
        x.giveUp(0);
        x.giveUp(3);
        Check.same("letters", x.letters(), 2);
    }

    private static void giveUpOfNoAsking() {
        PriceHouse x = Shop.trading(1);
        Check.refusesState("nothing was asked", () -> x.giveUp(0));
        x.ask(1);
        Check.refusesState("another till has asked", () -> x.giveUp(0));
        Check.same("letters", x.letters(), 1);
        x.giveUp(1);
        Check.same("letters", x.letters(), 2);
    }

    private static void giveUpTwice() {
        PriceHouse x = Shop.trading(1);
        x.ask(0);
        x.giveUp(0);
        Check.refusesState("at once", () -> x.giveUp(0));
        Shop.deliverAll(x);
        Check.refusesState("when GIVEN and GRANT have come", () -> x.giveUp(0));
        Check.same("no letters", x.letters(), 0);
        x.ask(0);
        x.giveUp(0);
        Shop.letterIs("a new asking may be given up", x, 1, 4, 0, 0, 2);
        Check.refusesState("but once", () -> x.giveUp(0));
    }

    private static void leaseTells() {
        PriceHouse x = Shop.withBooks(9);
        for (int b = 1; b <= 9; b += 8) {
            x.activate(b);
            Shop.lend(x, 3);
            Check.same("book " + b, x.lease(3), b);
            Check.same("it may be asked for again", x.lease(3), b);
            x.tick(59);
            Check.same("59 behind", x.lease(3), b);
            x.tick(1);
            Check.same("60 behind", x.lease(3), 0);
            x.tick(3);
        }
    }

    private static void leaseTellsOfNone() {
        PriceHouse x = new PriceHouse();
        Check.same("a new till", x.lease(0), 0);
        x.publish();
        Shop.deliverAll(x);
        x.activate(1);
        Check.same("nothing was asked", x.lease(0), 0);
        x.ask(0);
        Check.same("ASK is on its way", x.lease(0), 0);
        x.deliver(0);
        Check.same("GRANT is on its way", x.lease(0), 0);
        x.deliver(0);
        Check.same("another till's", x.lease(1), 0);
        Check.same("its own", x.lease(0), 1);
    }

    private static void leaseOfNoTill() {
        PriceHouse x = new PriceHouse();
        for (int till : Shop.outside(0, 3)) {
            Check.refusesArgument("till " + till, () -> x.lease(till));
        }
        Check.same("the first till", x.lease(0), 0);
        Check.same("the last till", x.lease(3), 0);
    }

    private static void loadedTells() {
        PriceHouse x = new PriceHouse();
        Check.same("none", x.loaded(3), 0);
        for (int b = 1; b <= 9; b++) {
            x.publish();
            x.lose(0);
            Check.same("a letter on its way is not a book", x.loaded(3), b - 1);
            Shop.deliverAll(x);
            Check.same("book " + b, x.loaded(3), b);
            Check.same("its letter was lost", x.loaded(0), 0);
        }
    }

    private static void loadedOfNoTill() {
        PriceHouse x = Shop.withBooks(1);
        for (int till : Shop.outside(0, 3)) {
            Check.refusesArgument("till " + till, () -> x.loaded(till));
        }
        Check.same("the first till", x.loaded(0), 1);
        Check.same("the last till", x.loaded(3), 1);
    }
}
