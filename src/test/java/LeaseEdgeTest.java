/** "Terms: Till": one test for each sentence that names an edge, or for a part of it. */
public final class LeaseEdgeTest {
    public static void main(String[] args) {
        Check.sentence("askings are numbered 1, 2, ..", LeaseEdgeTest::askingsAreNumbered);
        Check.sentence("a new one ends the lease that it has", LeaseEdgeTest::aNewAskingEndsTheLease);
        Check.sentence("(so does giving up)", LeaseEdgeTest::givingUpEndsTheLease);
        Check.sentence("A GRANT is taken if its asking is the latest one", LeaseEdgeTest::theLatestAsking);
        Check.sentence("and was not given up", LeaseEdgeTest::notGivenUp);
        Check.sentence("then the till has a LEASE of its book", LeaseEdgeTest::aLeaseOfItsBook);
        Check.sentence("VALID while the till's clock shows less than 60 more than at the asking",
                LeaseEdgeTest::lessThan60);
        Check.sentence("the till has its book", LeaseEdgeTest::hasItsBook);
        Check.sentence("and the till was not ready for a greater one", LeaseEdgeTest::notReadyForAGreaterOne);
        Check.end();
    }

    private static void askingsAreNumbered() {
        PriceHouse x = Shop.trading(1);
        Check.same("the first", x.ask(0), 1);
        Check.same("the second", x.ask(0), 2);
        Check.same("another till's first", x.ask(1), 1);
        x.giveUp(0);
        Check.same("behind giving up", x.ask(0), 3);
        Shop.deliverAll(x);
        Check.same("behind a lease", x.ask(0), 4);
        x.restart(0);
        x.restart(4);
        Check.same("behind restarts", x.ask(0), 5);
        Shop.fillRow(x);
        Check.same("without room", x.ask(0), 6);
        Check.same("and behind that", x.ask(0), 7);
    }

    private static void aNewAskingEndsTheLease() {
        PriceHouse x = Shop.trading(1);
        Shop.lend(x, 0);
        Shop.lend(x, 1);
        Check.same("before", x.lease(0), 1);
        x.ask(0);
        Check.same("behind", x.lease(0), 0);
        Check.refusesState("no basket", () -> x.open(0));
        Check.same("another till's stays", x.lease(1), 1);
        Shop.loseAll(x);
        Check.same("though ASK is lost", x.lease(0), 0);
        x.ask(0);
        Shop.fillRow(x);
        x.ask(1);
        Check.same("and without room", x.lease(1), 0);
    }

    private static void givingUpEndsTheLease() {
        PriceHouse x = Shop.trading(1);
        Shop.lend(x, 0);
        Shop.lend(x, 1);
        x.giveUp(0);
        Check.same("at once", x.lease(0), 0);
        Check.refusesState("no basket", () -> x.open(0));
        Check.same("another till's stays", x.lease(1), 1);
        Shop.loseAll(x);
        Check.same("though GIVEN is lost", x.lease(0), 0);
    }

    private static void theLatestAsking() {
        PriceHouse x = Shop.trading(1);
        x.ask(0);
        x.deliver(0);
        x.twin(0);
        x.deliver(0);
        Check.same("the latest", x.lease(0), 1);
        x.ask(0);
        x.deliver(0);
        Check.same("the one before the latest", x.lease(0), 0);
        x.deliver(0);
        x.deliver(0);
        Check.same("the latest again", x.lease(0), 1);
    }

    private static void notGivenUp() {
        PriceHouse x = Shop.trading(1);
        x.ask(0);
        x.deliver(0);
        x.twin(0);
        x.giveUp(0);
        x.deliver(0);
        Check.same("given up before the GRANT", x.lease(0), 0);
        x.ask(0);
        x.deliver(0);
        Check.same("that of the asking before", x.lease(0), 0);
        Shop.deliverAll(x);
        Check.same("a new asking is not given up", x.lease(0), 1);

        PriceHouse y = Shop.trading(1);
        y.ask(0);
        y.deliver(0);
        y.twin(0);
        y.deliver(0);
        y.giveUp(0);
        y.deliver(0);
        Check.same("given up between two GRANTs", y.lease(0), 0);
    }

    private static void aLeaseOfItsBook() {
        PriceHouse x = Shop.withBooks(3);
        x.activate(2);
        Shop.lend(x, 0);
        Check.same("the book of the GRANT, not the greatest", x.lease(0), 2);

        PriceHouse y = Shop.trading(2);
        y.ask(0);
        y.twin(0);
        y.deliver(0);
        y.deliver(1);
        Check.same("book 1", y.lease(0), 1);
        Shop.makeReadyOnly(y, 0);
        y.activate(2);
        Check.same("active", y.active(), 2);
        Shop.deliverAll(y);
        Check.same("a second GRANT for the same asking", y.lease(0), 2);
    }

    private static void lessThan60() {
        PriceHouse x = Shop.trading(1);
        x.tick(7);
        x.ask(0);
        x.tick(59);
        Shop.deliverAll(x);
        Check.same("59 behind the asking, granted then", x.lease(0), 1);
        x.tick(1);
        Check.same("60 behind the asking, 1 behind the GRANT", x.lease(0), 0);
        x.ask(0);
        x.tick(60);
        Shop.deliverAll(x);
        Check.same("granted at 60", x.lease(0), 0);

        // By what the clock shows, not by its hundredths: 99.99 shows 99, and 159.39 shows 60 more.
        PriceHouse y = Shop.trading(1);
        y.rate(0, 101);
        y.tick(99);
        Shop.lend(y, 0);
        y.rate(0, 99);
        y.tick(59);
        Check.same("158.40: 59 more", y.lease(0), 1);
        y.tick(1);
        Check.same("159.39: 60 more, though not 60.00", y.lease(0), 0);

        PriceHouse z = Shop.trading(1);
        z.tick(100);
        Shop.lend(z, 0);
        z.rate(0, 101);
        z.tick(59);
        Check.same("159.59: 59 more", z.lease(0), 1);
        z.tick(1);
        Check.same("160.60: 60 more", z.lease(0), 0);
    }

    private static void hasItsBook() {
        PriceHouse x = new PriceHouse();
        x.publish();
        x.publish();
        Shop.loseAll(x);
        x.activate(2);
        Shop.lend(x, 0);
        Check.same("no book", x.lease(0), 0);
        x.fetch(0);
        x.deliver(0);
        Check.same("only the book before", x.lease(0), 0);
        Check.refusesState("no basket", () -> x.open(0));
        x.deliver(0);
        Check.same("its book", x.lease(0), 2);
        Check.same("a basket", x.open(0), 0);
    }

    private static void notReadyForAGreaterOne() {
        PriceHouse x = Shop.withBooks(2);
        x.activate(2);
        Shop.lend(x, 0);
        x.ready(0);
        Check.same("ready for this one", x.lease(0), 2);
        x.publish();
        Shop.deliverAll(x);
        Check.same("a greater one is there", x.lease(0), 2);
        x.ready(1);
        Check.same("another till is ready for it", x.lease(0), 2);
        x.ready(0);
        Check.same("ready for it", x.lease(0), 0);
        Check.refusesState("no basket", () -> x.open(0));
        Shop.loseAll(x);
        Shop.lend(x, 0);
        Check.same("a GRANT of the lesser one behind that", x.lease(0), 0);
    }
}
