/** Promise 25 (restart). */
public final class RestartTest {
    public static void main(String[] args) {
        aTillLosesItsLease();
        aTillKeepsAllElse();
        anAskingIsGivenUpToo();
        theDeskWaits();
        theDeskForgetsAskings();
        theDeskForgetsWhoWasReady();
        theDeskForgetsWhoHolds();
        lettersAreReadWhileTheDeskWaits();
        aSecondRestartWaitsAnew();
        restartRefuses();
        Check.end();
    }

    private static void aTillLosesItsLease() {
        PriceHouse x = Shop.trading(2);
        Shop.lend(x, 1);
        x.ask(0);
        x.deliver(0);
        x.twin(0);
        x.deliver(0);
        Check.same("lease", x.lease(0), 1);
        x.restart(0);
        Check.same("no letter but the twin", x.letters(), 1);
        x.deliver(0);
        Check.same("the lease is gone", x.lease(0), 0);
        Check.same("another till's is not", x.lease(1), 1);
        Check.refusesState("no basket", () -> x.open(0));
        Check.refusesState("as if given up", () -> x.giveUp(0));
        x.activate(2);
        Shop.makeReady(x, 1);
        Check.same("the desk does not know", x.active(), 1);
        x.tick(63);
        Check.same("till time is over", x.active(), 2);
        Check.same("askings go on", x.ask(0), 2);
    }

    private static void aTillKeepsAllElse() {
        PriceHouse x = Shop.trading(2);
        Shop.lend(x, 0);
        x.open(0);
        x.open(0);
        x.scan(0, 0, 1);
        x.rate(0, 99);
        x.restart(0);
        Check.same("books", x.loaded(0), 2);
        Check.same("baskets", x.scan(0, 0, 1), 2);
        Shop.lend(x, 0);
        Check.same("a new lease", x.lease(0), 1);
        x.open(0);
        Check.refusesState("open baskets still count", () -> x.open(0));
        x.tick(60);
        Check.same("its rate: 59.40 more", x.lease(0), 1);

        x.ready(0);
        Shop.loseAll(x);
        x.restart(0);
        Shop.lend(x, 0);
        Check.same("that it was ready for book 2", x.lease(0), 0);
        Check.same("pay", x.pay(0), 200);
    }

    private static void anAskingIsGivenUpToo() {
        PriceHouse x = Shop.trading(1);
        x.ask(0);
        x.deliver(0);
        x.restart(0);
        x.deliver(0);
        Check.same("a grant behind the restart", x.lease(0), 0);
        Check.refusesState("given up", () -> x.giveUp(0));
        x.restart(1);
        Check.refusesState("nothing was asked", () -> x.giveUp(1));
        Shop.lend(x, 1);
        Check.same("a new asking", x.lease(1), 1);
    }

    private static void theDeskWaits() {
        PriceHouse x = Shop.trading(2);
        x.tick(10);
        x.restart(4);
        Check.same("active stays", x.active(), 1);
        Shop.lend(x, 0);
        Check.same("no answer", x.lease(0), 0);
        x.activate(2);
        Check.same("no change ends", x.active(), 1);
        x.tick(62);
        Check.same("62", x.active(), 1);
        Shop.makeReady(x, 0);
        Check.same("62", x.active(), 1);
        x.tick(1);
        Check.same("63", x.active(), 2);
        Shop.lend(x, 0);
        Check.same("answers again", x.lease(0), 2);

        PriceHouse y = Shop.trading(1);
        y.restart(4);
        y.tick(62);
        Shop.lend(y, 0);
        Check.same("62: no answer", y.lease(0), 0);
        y.tick(1);
        Shop.lend(y, 0);
        Check.same("63: an answer", y.lease(0), 1);

        PriceHouse z = Shop.trading(1);
        z.rate(4, 99);
        z.restart(4);
        z.tick(63);
        Shop.lend(z, 0);
        Check.same("62.37: no answer", z.lease(0), 0);
        z.tick(1);
        Shop.lend(z, 0);
        Check.same("63.36: an answer", z.lease(0), 1);
    }

    private static void theDeskForgetsAskings() {
        PriceHouse x = Shop.trading(1);
        x.ask(0);
        x.ask(0);
        x.deliver(1);
        x.lose(1);
        x.restart(4);
        x.tick(63);
        x.deliver(0);
        Shop.letterIs("asking 1 is answered behind the restart", x, 0, 2, 0, 1, 1);
    }

    private static void theDeskForgetsWhoWasReady() {
        PriceHouse x = Shop.trading(2);
        Shop.makeReady(x, 0);
        x.restart(4);
        x.tick(63);
        Shop.lend(x, 0);
        x.activate(2);
        Check.same("not known to be ready any more", x.active(), 1);
        Shop.makeReady(x, 0);
        Check.same("told again", x.active(), 2);
    }

    private static void theDeskForgetsWhoHolds() {
        PriceHouse x = Shop.trading(2);
        x.tick(100);
        Shop.lend(x, 0);
        x.activate(2);
        x.tick(1);
        x.restart(4);
        Check.same("the change stays, and its end waits", x.active(), 1);
        Check.refusesState("the change is still under way", () -> x.activate(2));
        x.tick(62);
        Check.same("63 behind the grant", x.active(), 1);
        x.tick(1);
        Check.same("63 behind the restart", x.active(), 2);
    }

    private static void lettersAreReadWhileTheDeskWaits() {
        PriceHouse x = Shop.trading(2);
        x.restart(4);
        Shop.makeReady(x, 0);
        x.tick(63);
        Shop.lend(x, 0);
        x.activate(2);
        Check.same("READY was noted", x.active(), 2);
    }

    private static void aSecondRestartWaitsAnew() {
        PriceHouse x = Shop.trading(2);
        x.restart(4);
        x.tick(40);
        x.restart(4);
        x.activate(2);
        x.tick(62);
        Check.same("62 behind the second", x.active(), 1);
        x.tick(1);
        Check.same("63 behind the second", x.active(), 2);
    }

    private static void restartRefuses() {
        PriceHouse x = Shop.trading(1);
        Shop.lend(x, 0);
        for (int who : new int[] {-1, 5, Integer.MIN_VALUE, Integer.MAX_VALUE}) {
            Check.refusesArgument("restart " + who, () -> x.restart(who));
        }
        Check.same("nothing has happened", x.lease(0), 1);
    }
}
