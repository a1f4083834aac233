/** "Terms: Desk" and "A CHANGE": one test for each sentence that names an edge, or for a part of it. */
public final class ChangeEdgeTest {
    public static void main(String[] args) {
        Check.sentence("an ASK is answered with a GRANT of the active book, if there is one",
                ChangeEdgeTest::grantOfTheActiveBook);
        Check.sentence("and no CHANGE", ChangeEdgeTest::noGrantOfTheActiveBookInAChange);
        Check.sentence("in a change, with one of its book, if the till is known to be ready for it",
                ChangeEdgeTest::grantOfTheChangesBook);
        Check.sentence("(or a greater one)", ChangeEdgeTest::grantToATillReadyForMore);
        Check.sentence("the desk notes the asking, the book and its clock for the till",
                ChangeEdgeTest::whatIsNoted);
        Check.sentence("Nothing is answered while it WAITS behind a restart", ChangeEdgeTest::noAnswerWhileItWaits);
        Check.sentence("and no asking below the one noted last", ChangeEdgeTest::noAskingBelowTheNoted);
        Check.sentence("READY: the greatest book that a till was ready for is noted.",
                ChangeEdgeTest::theGreatestReady);
        Check.sentence("GIVEN: if the asking is the one noted last, the till HOLDS nothing any more.",
                ChangeEdgeTest::givenOfTheNotedAsking);

        Check.sentence("A CHANGE to a book ends, and the book is ACTIVE, when the desk does not wait",
                ChangeEdgeTest::noEndWhileItWaits);
        Check.sentence("and each till is known to be ready for it", ChangeEdgeTest::eachTillIsReady);
        Check.sentence("(or a greater one)", ChangeEdgeTest::eachTillIsReadyForMore);
        Check.sentence("or holds nothing", ChangeEdgeTest::holdsNothing);
        Check.sentence("(or only a lease of this book)", ChangeEdgeTest::holdsALeaseOfThisBook);
        Check.sentence("or the desk's clock shows at least 63 more than when it granted the till last",
                ChangeEdgeTest::atLeast63More);
        Check.sentence("This is looked at behind each tick", ChangeEdgeTest::lookedAtBehindTicks);
        Check.sentence("each letter that comes to the desk", ChangeEdgeTest::lookedAtBehindLetters);
        Check.sentence("and when a change begins", ChangeEdgeTest::lookedAtWhenAChangeBegins);
        Check.end();
    }

    /** Book 1 is active, till 0 has a lease of it, and a change to a book is under way. */
    private static PriceHouse changing(int books, int to) {
        PriceHouse x = Shop.trading(books);
        Shop.lend(x, 0);
        x.activate(to);
        Check.same("the change is held up", x.active(), 1);
        return x;
    }

    private static void grantOfTheActiveBook() {
        PriceHouse x = Shop.withBooks(3);
        x.ask(0);
        x.deliver(0);
        Check.same("there is none: no answer", x.letters(), 0);
        x.activate(1);
        x.ask(0);
        x.deliver(0);
        Shop.letterIs("book 1 is active", x, 0, 2, 0, 1, 2);
        x.deliver(0);
        x.tick(63);
        x.activate(2);
        x.ask(0);
        x.deliver(0);
        Shop.letterIs("book 2 is active", x, 0, 2, 0, 2, 3);
        x.deliver(0);
        Shop.makeReady(x, 0);
        x.ask(0);
        x.deliver(0);
        Shop.letterIs("book 2 is active, though the till is ready for book 3", x, 0, 2, 0, 2, 4);
    }

    private static void noGrantOfTheActiveBookInAChange() {
        PriceHouse x = changing(2, 2);
        x.ask(1);
        x.twin(0);
        x.deliver(0);
        Check.same("in a change: no answer", x.letters(), 1);
        x.tick(63);
        Check.same("the change is over", x.active(), 2);
        x.deliver(0);
        Shop.letterIs("behind it", x, 0, 2, 1, 2, 1);
    }

    private static void grantOfTheChangesBook() {
        PriceHouse x = Shop.trading(1);
        Shop.lend(x, 0);
        Shop.makeReady(x, 1);
        x.publish();
        Shop.deliverAll(x);
        x.activate(2);
        x.ask(1);
        x.deliver(0);
        Check.same("ready for the lesser one: no answer", x.letters(), 0);
        x.ready(1);
        x.ask(1);
        x.deliver(1);
        Check.same("ready, but not known to be: no answer", x.letters(), 1);
        x.deliver(0);
        x.ask(2);
        x.deliver(0);
        Check.same("another till is ready: no answer", x.letters(), 0);
        x.ask(1);
        x.deliver(0);
        Shop.letterIs("ready for it", x, 0, 2, 1, 2, 3);
        Check.same("while book 1 is active", x.active(), 1);
        x.deliver(0);
        Check.same("a basket of it", x.book(x.open(1)), 2);
    }

    private static void grantToATillReadyForMore() {
        PriceHouse x = changing(3, 2);
        Shop.makeReady(x, 1);
        x.ask(1);
        x.deliver(0);
        Shop.letterIs("of the change's book, not of the one it is ready for", x, 0, 2, 1, 2, 1);
    }

    private static void whatIsNoted() {
        PriceHouse x = Shop.trading(2);
        x.ask(0);
        x.ask(0);
        x.deliver(1);
        x.deliver(0);
        Check.same("the asking: the one before it is not answered", x.letters(), 1);

        PriceHouse y = Shop.trading(2);
        y.tick(40);
        y.ask(0);
        y.deliver(0);
        y.lose(0);
        y.activate(2);
        y.tick(62);
        Check.same("the book (of a GRANT that is lost, too)", y.active(), 1);
        y.tick(1);
        Check.same("the clock", y.active(), 2);

        // An asking that is not answered is not noted: what was noted before still counts.
        PriceHouse z = changing(2, 2);
        z.tick(30);
        z.ask(0);
        z.deliver(0);
        Check.same("not answered", z.letters(), 0);
        z.giveUp(0);
        z.deliver(0);
        Check.same("its GIVEN is not that of the noted asking", z.active(), 1);
        z.tick(33);
        Check.same("63 behind the GRANT, 33 behind the asking", z.active(), 2);
    }

    private static void noAnswerWhileItWaits() {
        PriceHouse x = Shop.trading(1);
        x.tick(10);
        x.restart(4);
        x.ask(0);
        x.deliver(0);
        Check.same("at once: no answer", x.letters(), 0);
        x.tick(62);
        x.ask(0);
        x.deliver(0);
        Check.same("62 behind it: no answer", x.letters(), 0);
        x.tick(1);
        x.ask(0);
        x.deliver(0);
        Shop.letterIs("63 behind it", x, 0, 2, 0, 1, 3);

        PriceHouse y = changing(2, 2);
        y.restart(4);
        Shop.makeReady(y, 1);
        y.ask(1);
        y.deliver(0);
        Check.same("in a change: no answer", y.letters(), 0);

        PriceHouse z = Shop.trading(2);
        z.restart(4);
        z.tick(62);
        Shop.lend(z, 0);
        z.tick(1);
        z.activate(2);
        Check.same("nothing is noted of it either", z.active(), 2);
    }

    private static void noAskingBelowTheNoted() {
        PriceHouse x = Shop.trading(1);
        x.ask(0);
        x.ask(0);
        x.ask(0);
        x.ask(1);
        x.deliver(1);
        Shop.letterIs("asking 2", x, 3, 2, 0, 1, 2);
        x.twin(0);
        x.deliver(0);
        Check.same("asking 1, below it: no answer", x.letters(), 4);
        x.deliver(1);
        Shop.letterIs("asking 1 of another till", x, 3, 2, 1, 1, 1);
        x.deliver(0);
        Shop.letterIs("asking 3, above it", x, 3, 2, 0, 1, 3);
        x.deliver(1);
        Check.same("asking 1 once more: no answer", x.letters(), 3);

        PriceHouse y = Shop.trading(1);
        y.ask(0);
        y.twin(0);
        y.deliver(0);
        y.deliver(0);
        Check.same("the very asking is answered once more", y.letters(), 2);
        Shop.letterIs("once more", y, 1, 2, 0, 1, 1);

        PriceHouse z = Shop.trading(1);
        z.ask(0);
        z.ask(0);
        z.deliver(1);
        z.giveUp(0);
        z.deliver(2);
        z.deliver(0);
        Check.same("asking 1 when asking 2 was given up: no answer", z.letters(), 1);
        Shop.letterIs("only asking 2 was answered", z, 0, 2, 0, 1, 2);
    }

    private static void theGreatestReady() {
        PriceHouse x = Shop.trading(1);
        Shop.lend(x, 0);
        x.ready(0);
        x.publish();
        while (x.letters() > 1) {
            x.deliver(1);
        }
        x.ready(0);
        x.deliver(1);
        x.deliver(0);
        x.activate(2);
        Check.same("READY 2, then READY 1", x.active(), 2);

        PriceHouse y = Shop.trading(1);
        Shop.lend(y, 0);
        Shop.makeReady(y, 0);
        y.publish();
        Shop.deliverAll(y);
        Shop.makeReady(y, 0);
        y.activate(2);
        Check.same("READY 1, then READY 2", y.active(), 2);
    }

    private static void givenOfTheNotedAsking() {
        PriceHouse x = changing(2, 2);
        x.giveUp(0);
        x.deliver(0);
        Check.same("the noted one", x.active(), 2);

        PriceHouse y = Shop.trading(2);
        Shop.lend(y, 0);
        y.giveUp(0);
        y.ask(0);
        y.deliver(1);
        y.activate(2);
        y.deliver(0);
        Check.same("one below the noted", y.active(), 1);

        PriceHouse z = Shop.trading(2);
        Shop.lend(z, 0);
        z.ask(0);
        z.lose(0);
        z.giveUp(0);
        z.activate(2);
        z.deliver(0);
        Check.same("one above the noted", z.active(), 1);

        PriceHouse w = Shop.trading(2);
        Shop.lend(w, 0);
        Shop.lend(w, 1);
        w.giveUp(1);
        w.activate(2);
        w.deliver(0);
        Check.same("another till's", w.active(), 1);
    }

    private static void noEndWhileItWaits() {
        PriceHouse x = Shop.trading(2);
        x.tick(10);
        x.restart(4);
        x.activate(2);
        Check.same("it begins while the desk waits", x.active(), 1);
        for (int t = 0; t <= 3; t++) {
            Shop.makeReady(x, t);
        }
        Check.same("all tills are ready", x.active(), 1);
        x.tick(62);
        Check.same("62 behind the restart", x.active(), 1);
        x.tick(1);
        Check.same("63 behind the restart", x.active(), 2);
    }

    private static void eachTillIsReady() {
        for (int last = 0; last <= 3; last++) {
            PriceHouse x = Shop.trading(1);
            for (int t = 0; t <= 3; t++) {
                Shop.lend(x, t);
            }
            Shop.makeReady(x, last);
            x.publish();
            Shop.deliverAll(x);
            x.activate(2);
            for (int t = 0; t <= 3; t++) {
                if (t != last) {
                    Shop.makeReady(x, t);
                }
            }
            Check.same("till " + last + " is ready for the lesser one", x.active(), 1);
            x.ready(last);
            Check.same("till " + last + " is not known to be ready", x.active(), 1);
            Shop.deliverAll(x);
            Check.same("all are ready", x.active(), 2);
        }
    }

    private static void eachTillIsReadyForMore() {
        PriceHouse x = changing(3, 2);
        Shop.makeReady(x, 0);
        Check.same("ready for book 3 in a change to book 2", x.active(), 2);
    }

    private static void holdsNothing() {
        PriceHouse x = Shop.trading(2);
        x.ask(0);
        x.activate(2);
        Check.same("no till was granted anything", x.active(), 2);

        PriceHouse y = Shop.trading(2);
        for (int t = 0; t <= 3; t++) {
            Shop.lend(y, t);
        }
        y.activate(2);
        for (int t = 0; t <= 3; t++) {
            Check.same("till " + t + " holds a lease", y.active(), 1);
            y.giveUp(t);
            y.deliver(0);
        }
        Check.same("all have given up", y.active(), 2);

        // Given up, and granted once more by a late twin of its ASK.
        PriceHouse z = Shop.trading(2);
        z.ask(0);
        z.twin(0);
        z.deliver(0);
        z.giveUp(0);
        z.deliver(2);
        z.deliver(0);
        z.activate(2);
        Check.same("it holds something again", z.active(), 1);
    }

    private static void holdsALeaseOfThisBook() {
        PriceHouse x = changing(2, 2);
        Shop.makeReady(x, 1);
        Shop.lend(x, 1);
        Check.same("a lease of the change's book", x.lease(1), 2);
        x.giveUp(0);
        Shop.deliverAll(x);
        Check.same("it holds nothing up", x.active(), 2);

        PriceHouse y = changing(2, 2);
        Shop.makeReady(y, 1);
        Shop.lend(y, 1);
        y.publish();
        y.activate(3);
        y.giveUp(0);
        Shop.deliverAll(y);
        Check.same("a lease of a lesser change's book does", y.active(), 1);
    }

    private static void atLeast63More() {
        PriceHouse x = Shop.trading(2);
        x.tick(5);
        x.ask(0);
        x.tick(10);
        x.deliver(0);
        x.tick(10);
        x.deliver(0);
        x.activate(2);
        x.tick(52);
        Check.same("62 behind the granting, 72 behind the asking", x.active(), 1);
        x.tick(1);
        Check.same("63 behind the granting, 53 behind the taking", x.active(), 2);

        PriceHouse y = Shop.trading(2);
        y.ask(0);
        y.twin(0);
        y.deliver(0);
        y.tick(10);
        y.deliver(0);
        y.activate(2);
        y.tick(62);
        Check.same("62 behind the last granting", y.active(), 1);
        y.tick(1);
        Check.same("63 behind it", y.active(), 2);

        // By what the clock shows, not by its hundredths: granted at 99.99, it ends at 162.36.
        PriceHouse z = Shop.trading(2);
        z.rate(4, 101);
        z.tick(99);
        Shop.lend(z, 0);
        z.activate(2);
        z.rate(4, 99);
        Check.same("99.99 + 61.38", z.tick(62), 161);
        Check.same("62 more shown", z.active(), 1);
        Check.same("99.99 + 62.37", z.tick(1), 162);
        Check.same("63 more shown", z.active(), 2);
    }

    private static void lookedAtBehindTicks() {
        PriceHouse x = changing(2, 2);
        for (int tick = 1; tick <= 62; tick++) {
            x.tick(1);
            Check.same("tick " + tick, x.active(), 1);
        }
        x.tick(1);
        Check.same("tick 63", x.active(), 2);
        PriceHouse y = changing(2, 2);
        y.tick(63);
        Check.same("63 at once", y.active(), 2);
        PriceHouse z = changing(2, 2);
        z.tick(500);
        Check.same("500 at once", z.active(), 2);
    }

    private static void lookedAtBehindLetters() {
        PriceHouse x = changing(2, 2);
        x.ready(0);
        Check.same("READY is on its way", x.active(), 1);
        x.deliver(0);
        Check.same("READY has come", x.active(), 2);
        PriceHouse y = changing(2, 2);
        y.giveUp(0);
        Check.same("GIVEN is on its way", y.active(), 1);
        y.deliver(0);
        Check.same("GIVEN has come", y.active(), 2);
        PriceHouse z = changing(2, 2);
        z.giveUp(0);
        z.lose(0);
        Check.same("GIVEN is lost", z.active(), 1);
    }

    private static void lookedAtWhenAChangeBegins() {
        PriceHouse x = Shop.withBooks(1);
        x.activate(1);
        Check.same("nobody holds anything", x.active(), 1);
        PriceHouse y = Shop.trading(2);
        Shop.lend(y, 0);
        y.tick(62);
        y.activate(2);
        Check.same("62 behind the granting", y.active(), 1);
        PriceHouse z = Shop.trading(2);
        Shop.lend(z, 0);
        z.tick(63);
        z.activate(2);
        Check.same("63 behind the granting", z.active(), 2);
        PriceHouse w = Shop.trading(2);
        Shop.lend(w, 0);
        Shop.makeReady(w, 0);
        w.activate(2);
        Check.same("the till was ready before", w.active(), 2);
    }
}
