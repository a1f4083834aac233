/** "Terms: A RESTART": one test for each sentence that names an edge, or for a part of it. */
public final class RestartEdgeTest {
    public static void main(String[] args) {
        Check.sentence("A RESTART of a till: its lease is gone", RestartEdgeTest::theLeaseIsGone);
        Check.sentence("as if given up", RestartEdgeTest::asIfGivenUp);
        Check.sentence("(without a letter)", RestartEdgeTest::withoutALetter);
        Check.sentence("all else stays", RestartEdgeTest::allElseStays);
        Check.sentence("Of the desk: what it noted of tills", RestartEdgeTest::theDeskForgetsWhatItNoted);
        Check.sentence("(also what they were ready for) is forgotten", RestartEdgeTest::theDeskForgetsWhoWasReady);
        Check.sentence("it waits till its clock shows 63 more", RestartEdgeTest::theDeskWaits);
        Check.end();
    }

    private static void theLeaseIsGone() {
        for (int who = 0; who <= 3; who++) {
            PriceHouse x = Shop.trading(1);
            for (int t = 0; t <= 3; t++) {
                Shop.lend(x, t);
            }
            x.restart(who);
            for (int t = 0; t <= 3; t++) {
                Check.same("till " + t + " when till " + who + " restarts", x.lease(t), t == who ? 0 : 1);
            }
        }
        PriceHouse y = new PriceHouse();
        y.restart(0);
        Check.same("a till without one", y.lease(0), 0);
    }

    private static void asIfGivenUp() {
        PriceHouse x = Shop.trading(1);
        x.ask(0);
        x.deliver(0);
        x.twin(0);
        x.deliver(0);
        x.restart(0);
        x.deliver(0);
        Check.same("one more GRANT of it is not taken", x.lease(0), 0);
        Check.refusesState("it is not given up twice", () -> x.giveUp(0));
        Shop.lend(x, 0);
        Check.same("a new asking is taken", x.lease(0), 1);

        PriceHouse y = Shop.trading(1);
        y.ask(0);
        y.restart(0);
        Shop.deliverAll(y);
        Check.same("an asking that is not yet answered", y.lease(0), 0);
        Check.refusesState("it is not given up twice", () -> y.giveUp(0));

        PriceHouse z = Shop.trading(1);
        z.restart(0);
        Check.refusesState("nothing was asked for", () -> z.giveUp(0));
    }

    private static void withoutALetter() {
        PriceHouse x = Shop.trading(2);
        Shop.lend(x, 0);
        x.restart(0);
        Check.same("letters", x.letters(), 0);
        x.activate(2);
        Check.same("the desk does not know of it", x.active(), 1);
        x.tick(62);
        Check.same("the desk does not know of it", x.active(), 1);
        x.tick(1);
        Check.same("till time is over", x.active(), 2);
    }

    private static void allElseStays() {
        PriceHouse x = Shop.trading(2);
        Shop.lend(x, 0);
        x.open(0);
        x.scan(0, 0, 1);
        x.open(0);
        x.ask(1);
        x.rate(0, 99);
        x.restart(0);
        Check.same("the letters", x.letters(), 1);
        Check.same("the books", x.loaded(0), 2);
        Check.same("the active book", x.active(), 1);
        Check.same("the pieces of an open basket", x.scan(0, 0, 1), 2);
        Check.same("the numbers of askings", x.ask(0), 2);
        Shop.deliverAll(x);
        x.open(0);
        Check.refusesState("the open baskets count", () -> x.open(0));
        x.tick(60);
        Check.same("the rate: 59.40 more", x.lease(0), 1);
        Check.same("an open basket is paid", x.pay(0), 200);
        x.ready(0);
        Shop.loseAll(x);
        x.restart(0);
        Shop.lend(x, 0);
        Check.same("that it was ready for book 2", x.lease(0), 0);

        // From 0.99 it is 60.58 by 59 ticks; from 0.00 it would be 59.59.
        PriceHouse y = Shop.trading(1);
        y.rate(0, 99);
        y.tick(1);
        y.restart(0);
        y.rate(0, 101);
        Shop.lend(y, 0);
        y.tick(58);
        Check.same("the clock: 59 more", y.lease(0), 1);
        y.tick(1);
        Check.same("the clock: 60 more", y.lease(0), 0);
    }

    private static void theDeskForgetsWhatItNoted() {
        PriceHouse x = Shop.trading(1);
        x.ask(0);
        x.ask(0);
        x.deliver(1);
        x.deliver(1);
        x.restart(4);
        x.tick(63);
        x.deliver(0);
        Shop.letterIs("the asking: one below it is answered", x, 0, 2, 0, 1, 1);

        // Its own side stays: the active book, the change, the clock and its rate.
        PriceHouse y = Shop.trading(2);
        y.rate(4, 101);
        y.tick(100);
        Shop.lend(y, 0);
        y.activate(2);
        y.restart(4);
        Check.same("the active book", y.active(), 1);
        Check.refusesState("the change", () -> y.activate(2));
        Check.same("the clock and its rate", y.tick(100), 202);
        Check.same("the change has ended", y.active(), 2);
    }

    private static void theDeskForgetsWhoWasReady() {
        PriceHouse x = Shop.trading(2);
        Shop.makeReady(x, 0);
        x.restart(4);
        x.tick(63);
        Shop.lend(x, 0);
        x.activate(2);
        Check.same("the change does not end", x.active(), 1);
        x.ask(0);
        x.deliver(0);
        Check.same("no GRANT in the change", x.letters(), 0);
        Shop.makeReady(x, 0);
        Check.same("told again", x.active(), 2);

        PriceHouse y = Shop.trading(2);
        y.restart(4);
        Shop.makeReady(y, 0);
        y.tick(63);
        Shop.lend(y, 0);
        y.activate(2);
        Check.same("told while the desk waits", y.active(), 2);
    }

    private static void theDeskWaits() {
        PriceHouse x = Shop.trading(2);
        x.tick(10);
        x.restart(4);
        x.activate(2);
        x.tick(62);
        Check.same("62 more", x.active(), 1);
        x.tick(1);
        Check.same("63 more", x.active(), 2);

        PriceHouse y = Shop.trading(2);
        y.restart(4);
        y.tick(40);
        y.restart(4);
        y.activate(2);
        y.tick(62);
        Check.same("62 more than at the second restart", y.active(), 1);
        y.tick(1);
        Check.same("63 more than at the second restart", y.active(), 2);

        // By what the clock shows, not by its hundredths: from 99.99 to 162.36.
        PriceHouse z = Shop.trading(2);
        z.rate(4, 101);
        z.tick(99);
        z.restart(4);
        z.activate(2);
        z.rate(4, 99);
        Check.same("99.99 + 61.38", z.tick(62), 161);
        Check.same("62 more shown", z.active(), 1);
        Check.same("99.99 + 62.37", z.tick(1), 162);
        Check.same("63 more shown", z.active(), 2);

        PriceHouse w = Shop.trading(2);
        w.activate(2);
        Check.same("a new desk does not wait", w.active(), 2);
    }
}
