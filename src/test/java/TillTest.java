/** Promises 9 (fetch), 10 (ready), 11 (ask), 12 (giveUp), 13 (lease) and 14 (loaded). */
public final class TillTest {
    public static void main(String[] args) {
        fetchSendsWhatIsMissing();
        fetchCountsLettersWithoutRoom();
        readyTellsTheGreatestBook();
        askNumbersAskings();
        askEndsTheLease();
        giveUpTells();
        giveUpRefuses();
        grantsAreTakenForTheLatestAskingOnly();
        aSecondGrantReplacesTheLease();
        leaseLastsLessThanSixty();
        leaseNeedsItsBook();
        leaseEndsWhenReadyForMore();
        loadedTakesBooksInOrder();
        wrongTillsAreRefused();
        Check.end();
    }

    private static void fetchSendsWhatIsMissing() {
        PriceHouse x = new PriceHouse();
        x.publish();
        Shop.deliverAll(x);
        x.publish();
        x.publish();
        Shop.loseAll(x);
        Check.same("fetch", x.fetch(2), 2);
        Check.same("letters", x.letters(), 2);
        Shop.letterIs("first", x, 0, 0, 2, 2, 0);
        Shop.letterIs("second", x, 1, 0, 2, 3, 0);
        Check.same("letters in the row do not count as had", x.fetch(2), 2);
        Shop.deliverAll(x);
        Check.same("loaded", x.loaded(2), 3);
        Check.same("others have none of it", x.loaded(1), 1);
        Check.same("nothing is missing", x.fetch(2), 0);
        Check.same("no letters", x.letters(), 0);
    }

    private static void fetchCountsLettersWithoutRoom() {
        PriceHouse x = new PriceHouse();
        for (int b = 1; b <= 9; b++) {
            x.publish();
        }
        Check.same("fetch with room for four", x.fetch(3), 9);
        Check.same("letters", x.letters(), 40);
        Shop.letterIs("last", x, 39, 0, 3, 4, 0);
        Check.same("fetch without room", x.fetch(3), 9);
        Check.same("letters", x.letters(), 40);
    }

    private static void readyTellsTheGreatestBook() {
        PriceHouse x = Shop.withBooks(2);
        Check.same("ready", x.ready(3), 2);
        Check.same("letters", x.letters(), 1);
        Shop.letterIs("READY", x, 0, 3, 3, 2, 0);
        Check.same("ready again", x.ready(3), 2);
        Check.same("letters", x.letters(), 2);

        PriceHouse y = new PriceHouse();
        y.publish();
        Check.refusesState("ready without a book", () -> y.ready(0));
        Check.same("no letter of it", y.letters(), 4);
        y.deliver(0);
        Check.same("ready", y.ready(0), 1);
        Check.refusesState("ready without a book", () -> y.ready(1));

        PriceHouse z = Shop.withBooks(1);
        z.ready(0);
        Shop.fillRow(z);
        Check.same("ready without room", z.ready(1), 1);
        Check.same("letters", z.letters(), 40);
    }

    private static void askNumbersAskings() {
        PriceHouse x = Shop.trading(1);
        Check.same("ask", x.ask(1), 1);
        Check.same("ask", x.ask(1), 2);
        Check.same("ask of another till", x.ask(3), 1);
        Shop.letterIs("first", x, 0, 1, 1, 0, 1);
        Shop.letterIs("second", x, 1, 1, 1, 0, 2);
        Shop.letterIs("third", x, 2, 1, 3, 0, 1);
        Shop.fillRow(x);
        Check.same("ask without room", x.ask(1), 3);
        Check.same("letters", x.letters(), 40);
        Shop.deliverAll(x);
        Check.same("the latest asking was lost", x.lease(1), 0);
    }

    private static void askEndsTheLease() {
        PriceHouse x = Shop.trading(1);
        Shop.lend(x, 0);
        Check.same("lease", x.lease(0), 1);
        x.ask(0);
        Check.same("asked anew", x.lease(0), 0);
        Shop.loseAll(x);
        x.tick(5);
        Check.same("the lease stays away", x.lease(0), 0);
    }

    private static void giveUpTells() {
        PriceHouse x = Shop.trading(1);
        Shop.lend(x, 2);
        Shop.lend(x, 2);
        x.giveUp(2);
        Check.same("given up", x.lease(2), 0);
        Check.same("letters", x.letters(), 1);
        Shop.letterIs("GIVEN", x, 0, 4, 2, 0, 2);
        Shop.deliverAll(x);
        Check.same("ask behind it", x.ask(2), 3);
        Shop.deliverAll(x);
        Check.same("lease again", x.lease(2), 1);

        x.ask(2);
        Shop.loseAll(x);
        x.giveUp(2);
        Shop.letterIs("an asking without a lease is given up", x, 0, 4, 2, 0, 4);
        Shop.fillRow(x);
        x.ask(2);
        x.giveUp(2);
        Check.same("giving up without room", x.letters(), 40);
        Check.refusesState("given up without room", () -> x.giveUp(2));
    }

    private static void giveUpRefuses() {
        PriceHouse x = Shop.trading(1);
        Check.refusesState("nothing was asked", () -> x.giveUp(0));
        x.ask(0);
        x.giveUp(0);
        Check.refusesState("given up before", () -> x.giveUp(0));
        Check.refusesState("another till", () -> x.giveUp(1));
        Check.same("letters", x.letters(), 2);

        PriceHouse y = Shop.trading(1);
        Shop.lend(y, 0);
        y.tick(100);
        y.giveUp(0);
        Check.same("a lease that ran out is given up", y.letters(), 1);
    }

    private static void grantsAreTakenForTheLatestAskingOnly() {
        PriceHouse x = Shop.trading(1);
        x.ask(0);
        x.deliver(0);
        Shop.letterIs("GRANT", x, 0, 2, 0, 1, 1);
        x.ask(0);
        x.deliver(0);
        Check.same("grant of an asking before", x.lease(0), 0);
        x.deliver(0);
        x.giveUp(0);
        x.deliver(0);
        Check.same("grant of an asking given up", x.lease(0), 0);
        Check.same("other tills have nothing", x.lease(1), 0);

        PriceHouse y = Shop.trading(1);
        y.ask(0);
        y.deliver(0);
        y.twin(0);
        y.deliver(0);
        Check.same("lease", y.lease(0), 1);
        y.deliver(0);
        Check.same("the same grant twice", y.lease(0), 1);
    }

    private static void aSecondGrantReplacesTheLease() {
        PriceHouse x = Shop.trading(2);
        x.ask(0);
        x.twin(0);
        x.deliver(0);
        Shop.letterIs("GRANT", x, 1, 2, 0, 1, 1);
        x.ready(0);
        x.deliver(2);
        x.activate(2);
        Check.same("active", x.active(), 2);
        x.deliver(0);
        Shop.letterIs("second GRANT", x, 1, 2, 0, 2, 1);
        x.deliver(1);
        Check.same("lease of book 2", x.lease(0), 2);
        x.deliver(0);
        Check.same("the late GRANT is of a book that is not valid", x.lease(0), 0);
    }

    private static void leaseLastsLessThanSixty() {
        PriceHouse x = Shop.trading(1);
        x.tick(7);
        x.ask(0);
        x.tick(30);
        Shop.deliverAll(x);
        Check.same("lease", x.lease(0), 1);
        x.tick(29);
        Check.same("59 behind the asking", x.lease(0), 1);
        x.tick(1);
        Check.same("60 behind the asking", x.lease(0), 0);

        x.ask(0);
        x.tick(60);
        Shop.deliverAll(x);
        Check.same("granted too late", x.lease(0), 0);
        x.ask(0);
        Shop.deliverAll(x);
        Check.same("a new one", x.lease(0), 1);
    }

    private static void leaseNeedsItsBook() {
        PriceHouse x = new PriceHouse();
        x.publish();
        x.activate(1);
        Shop.loseAll(x);
        Shop.lend(x, 0);
        Check.same("without the book", x.lease(0), 0);
        Check.refusesState("no basket without the book", () -> x.open(0));
        x.fetch(0);
        Shop.deliverAll(x);
        Check.same("with the book", x.lease(0), 1);
        Check.same("basket", x.open(0), 0);
    }

    private static void leaseEndsWhenReadyForMore() {
        PriceHouse x = Shop.trading(1);
        Shop.makeReady(x, 0);
        Shop.lend(x, 0);
        Check.same("ready for this book", x.lease(0), 1);
        x.publish();
        Shop.deliverAll(x);
        Check.same("a newer book is there", x.lease(0), 1);
        x.ready(0);
        Check.same("ready for a greater one", x.lease(0), 0);
        Shop.loseAll(x);
        Shop.lend(x, 0);
        Check.same("a new lease of the lesser book", x.lease(0), 0);
        Check.same("other tills are not ready", x.lease(1), 0);
        Shop.lend(x, 1);
        Check.same("other tills go on", x.lease(1), 1);
    }

    private static void loadedTakesBooksInOrder() {
        PriceHouse x = new PriceHouse();
        x.publish();
        x.publish();
        x.deliver(4);
        Check.same("book 2 without book 1", x.loaded(0), 0);
        x.twin(0);
        x.deliver(0);
        Check.same("book 1", x.loaded(0), 1);
        x.deliver(x.letters() - 1);
        Check.same("book 1 twice", x.loaded(0), 1);
        Check.same("till 1 has none", x.loaded(1), 0);
        Check.same("book 2 is fetched", x.fetch(0), 1);
        x.twin(x.letters() - 1);
        x.deliver(x.letters() - 1);
        Check.same("book 2", x.loaded(0), 2);
        x.publish();
        x.deliver(x.letters() - 4);
        Check.same("book 3", x.loaded(0), 3);
        x.deliver(x.letters() - 4);
        Check.same("book 2 late", x.loaded(0), 3);
    }

    private static void wrongTillsAreRefused() {
        PriceHouse x = Shop.trading(1);
        for (int till : Shop.WRONG_TILLS) {
            Check.refusesArgument("fetch", () -> x.fetch(till));
            Check.refusesArgument("ready", () -> x.ready(till));
            Check.refusesArgument("ask", () -> x.ask(till));
            Check.refusesArgument("giveUp", () -> x.giveUp(till));
            Check.refusesArgument("lease", () -> x.lease(till));
            Check.refusesArgument("loaded", () -> x.loaded(till));
        }
        Check.same("no letters of it", x.letters(), 0);
    }
}
