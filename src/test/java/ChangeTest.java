/** Promises 5 (activate) and 6 (active), and how the desk answers askings (15, deliver). */
public final class ChangeTest {
    public static void main(String[] args) {
        theFirstBookIsActiveAtOnce();
        activateRefuses();
        aHeldLeaseHoldsTheChangeUp();
        everyTillCounts();
        readyForTheBookOrAGreaterOne();
        givingUpLetsGo();
        lateAndStrangeGivens();
        timeLetsGo();
        timeRunsFromTheLastGrant();
        aGreaterChangeTakesItsPlace();
        askingsInAChange();
        noAnswerWithoutAnActiveBook();
        noAnswerToAskingsBelowTheNoted();
        theGreatestReadyIsNoted();
        Check.end();
    }

    /** Book 1 is active, till 0 has a lease of it, and a change to book 2 is under way. */
    private static PriceHouse changing(int books) {
        PriceHouse x = Shop.trading(books);
        Shop.lend(x, 0);
        x.activate(2);
        Check.same("the change is held up", x.active(), 1);
        return x;
    }

    private static void theFirstBookIsActiveAtOnce() {
        PriceHouse x = new PriceHouse();
        x.publish();
        x.publish();
        Check.same("none", x.active(), 0);
        x.activate(2);
        Check.same("book 2", x.active(), 2);
    }

    private static void activateRefuses() {
        PriceHouse x = Shop.withBooks(3);
        for (int book : new int[] {0, -1, 4, Integer.MIN_VALUE, Integer.MAX_VALUE}) {
            Check.refusesArgument("activate " + book, () -> x.activate(book));
        }
        Check.same("none", x.active(), 0);
        x.activate(2);
        Check.refusesState("the active one", () -> x.activate(2));
        Check.refusesState("below the active one", () -> x.activate(1));
        Shop.lend(x, 0);
        x.activate(3);
        Check.same("held up", x.active(), 2);
        Check.refusesState("that of the change", () -> x.activate(3));
        Check.refusesState("below that of the change", () -> x.activate(2));
        Check.refusesState("below the active one", () -> x.activate(1));
        Check.refusesArgument("no such book", () -> x.activate(4));
    }

    private static void aHeldLeaseHoldsTheChangeUp() {
        PriceHouse x = changing(2);
        x.tick(62);
        Check.same("62", x.active(), 1);
        Shop.makeReady(x, 1);
        Check.same("another till is ready", x.active(), 1);
        x.ready(0);
        Check.same("READY is on its way", x.active(), 1);
        Shop.deliverAll(x);
        Check.same("READY has come", x.active(), 2);
    }

    private static void everyTillCounts() {
        for (int last = 0; last < 4; last++) {
            PriceHouse x = Shop.trading(2);
            for (int t = 0; t < 4; t++) {
                Shop.lend(x, t);
            }
            x.activate(2);
            for (int t = 0; t < 4; t++) {
                if (t != last) {
                    Shop.makeReady(x, t);
                }
            }
            Check.same("till " + last + " is not ready", x.active(), 1);
            Shop.makeReady(x, last);
            Check.same("all are ready", x.active(), 2);
        }
    }

    private static void readyForTheBookOrAGreaterOne() {
        PriceHouse x = changing(3);
        Shop.makeReady(x, 0);
        Check.same("ready for book 3", x.active(), 2);

        PriceHouse y = Shop.trading(1);
        Shop.makeReady(y, 0);
        Shop.lend(y, 0);
        y.publish();
        Shop.deliverAll(y);
        y.activate(2);
        Check.same("ready for book 1 only", y.active(), 1);

        PriceHouse z = Shop.trading(2);
        Shop.lend(z, 0);
        Shop.makeReady(z, 0);
        z.activate(2);
        Check.same("ready before the change began", z.active(), 2);
    }

    private static void givingUpLetsGo() {
        PriceHouse x = changing(2);
        x.giveUp(0);
        Check.same("GIVEN is on its way", x.active(), 1);
        Shop.deliverAll(x);
        Check.same("GIVEN has come", x.active(), 2);

        PriceHouse y = Shop.trading(2);
        Shop.lend(y, 0);
        y.giveUp(0);
        Shop.deliverAll(y);
        y.activate(2);
        Check.same("given up before the change began", y.active(), 2);
    }

    private static void lateAndStrangeGivens() {
        PriceHouse x = Shop.trading(2);
        Shop.lend(x, 0);
        x.giveUp(0);
        x.ask(0);
        x.deliver(1);
        x.activate(2);
        x.deliver(0);
        Check.same("GIVEN of an asking before the noted one", x.active(), 1);

        PriceHouse y = Shop.trading(2);
        Shop.lend(y, 0);
        y.ask(0);
        Shop.loseAll(y);
        y.giveUp(0);
        y.activate(2);
        Shop.deliverAll(y);
        Check.same("GIVEN of an asking behind the noted one", y.active(), 1);

        PriceHouse z = Shop.trading(2);
        z.ask(0);
        z.twin(0);
        z.deliver(0);
        z.deliver(1);
        z.giveUp(0);
        z.deliver(1);
        z.deliver(0);
        Shop.letterIs("the asking that was given up is granted once more", z, 0, 2, 0, 1, 1);
        z.activate(2);
        Check.same("and held once more", z.active(), 1);
        Shop.deliverAll(z);
        Check.same("though the till does not take it", z.lease(0), 0);
        z.tick(63);
        Check.same("so that time must end it", z.active(), 2);
    }

    private static void timeLetsGo() {
        PriceHouse x = changing(2);
        x.tick(62);
        Check.same("62", x.active(), 1);
        x.tick(1);
        Check.same("63", x.active(), 2);

        PriceHouse y = changing(2);
        y.rate(4, 99);
        y.tick(63);
        Check.same("a slow desk at 62.37", y.active(), 1);
        y.tick(1);
        Check.same("a slow desk at 63.36", y.active(), 2);

        PriceHouse z = Shop.trading(2);
        Shop.lend(z, 0);
        z.tick(63);
        z.activate(2);
        Check.same("looked at when it begins", z.active(), 2);

        PriceHouse w = changing(2);
        w.tick(500);
        Check.same("far behind", w.active(), 2);
    }

    private static void timeRunsFromTheLastGrant() {
        PriceHouse x = Shop.trading(2);
        x.ask(0);
        x.tick(20);
        x.twin(0);
        x.deliver(0);
        x.tick(10);
        x.deliver(0);
        x.activate(2);
        x.tick(62);
        Check.same("62 behind the second grant", x.active(), 1);
        x.tick(1);
        Check.same("63 behind it", x.active(), 2);
    }

    private static void aGreaterChangeTakesItsPlace() {
        PriceHouse x = changing(2);
        x.publish();
        Shop.makeReady(x, 1);
        Shop.loseAll(x);
        x.activate(3);
        Check.same("held up", x.active(), 1);
        Shop.lend(x, 2);
        Check.same("no lease of book 2 any more", x.lease(2), 0);
        x.tick(63);
        Check.same("book 3, not 2", x.active(), 3);

        PriceHouse y = changing(2);
        Shop.makeReady(y, 1);
        Shop.lend(y, 1);
        Check.same("a lease of the change's book", y.lease(1), 2);
        y.tick(1);
        y.publish();
        Shop.loseAll(y);
        y.activate(3);
        y.tick(61);
        Check.same("held up", y.active(), 1);
        y.tick(1);
        Check.same("a lease of book 2 ran out", y.active(), 3);
    }

    private static void askingsInAChange() {
        PriceHouse x = changing(3);
        x.ask(1);
        x.deliver(0);
        Check.same("not known to be ready: no answer", x.letters(), 0);
        x.ready(1);
        x.ask(1);
        x.deliver(1);
        Check.same("READY has not come: no answer", x.letters(), 1);
        x.deliver(0);
        x.ask(1);
        x.deliver(0);
        Shop.letterIs("ready for book 3: answered with book 2", x, 0, 2, 1, 2, 3);
        x.deliver(0);
        Check.same("which is no lease for a till that is ready for book 3", x.lease(1), 0);

        PriceHouse y = changing(2);
        Shop.makeReady(y, 1);
        Shop.lend(y, 1);
        Check.same("ready for book 2", y.lease(1), 2);
        Check.same("a basket of it", y.book(y.open(1)), 2);
        Check.same("while book 1 is active", y.active(), 1);
        Shop.lend(y, 0);
        Check.same("the asking was not answered", y.lease(0), 0);
        Check.same("and what was held is still held", y.active(), 1);
        y.giveUp(0);
        Shop.deliverAll(y);
        Check.same("GIVEN of an asking that was never noted", y.active(), 1);
        y.tick(63);
        Check.same("a lease of the change's book does not hold it up", y.active(), 2);
    }

    private static void noAnswerWithoutAnActiveBook() {
        PriceHouse x = Shop.withBooks(1);
        x.ask(0);
        x.twin(0);
        x.deliver(0);
        Check.same("letters", x.letters(), 1);
        x.activate(1);
        Check.same("active", x.active(), 1);
        Shop.deliverAll(x);
        Check.same("the twin is answered", x.lease(0), 1);
    }

    private static void noAnswerToAskingsBelowTheNoted() {
        PriceHouse x = Shop.trading(1);
        x.ask(0);
        x.ask(0);
        x.twin(1);
        x.deliver(1);
        Check.same("asking 2 is answered", x.letters(), 3);
        x.deliver(0);
        Check.same("asking 1 is not", x.letters(), 2);
        x.deliver(0);
        Shop.letterIs("asking 2 is answered twice", x, 1, 2, 0, 1, 2);
        x.ask(1);
        x.deliver(2);
        Shop.letterIs("each till has its own", x, 2, 2, 1, 1, 1);

        PriceHouse y = Shop.trading(1);
        y.ask(0);
        y.ask(0);
        y.deliver(1);
        y.giveUp(0);
        y.deliver(2);
        Check.same("ASK and GRANT", y.letters(), 2);
        y.deliver(0);
        Check.same("giving up does not forget the asking", y.letters(), 1);
    }

    private static void theGreatestReadyIsNoted() {
        PriceHouse x = Shop.withBooks(1);
        x.activate(1);
        Shop.lend(x, 0);
        x.ready(0);
        x.publish();
        for (int k = 0; k < 4; k++) {
            x.deliver(1);
        }
        x.ready(0);
        x.deliver(1);
        x.deliver(0);
        x.activate(2);
        Check.same("READY of book 1 came behind that of book 2", x.active(), 2);
    }
}
