import java.util.Arrays;

/** "What it is": each thing that this sentence says is tried on the whole class. */
public final class WhatItIsTest {
    private static final int DEPTH = 6;
    // Ticks that a slow till's lease outlasts, and one more: a desk that trusts its clock too early shows there.
    private static final int LONG = 60;

    // A fault breaks many runs alike; a few of them tell enough.
    private static final int TOLD = 5;

    private static int tried = 0;
    private static int broken = 0;

    public static void main(String[] args) {
        Check.sentence("a desk publishes them and changes from one to the next", WhatItIsTest::theDesk);
        Check.sentence("tills load them, ask for leases and open baskets under them", WhatItIsTest::theTills);
        Check.sentence("clocks run unevenly", WhatItIsTest::unevenClocks);
        Check.sentence("letters get lost or come late or twice", WhatItIsTest::letters);
        Check.sentence("no basket is opened for an older book once a newer one was reported active",
                WhatItIsTest::noOlderBook);
        Check.sentence("no basket is opened for an older book once a newer one was reported active: all short runs",
                WhatItIsTest::noOlderBookInAnyShortRun);
        Check.sentence("each is paid by its own book as cheaply as that allows", WhatItIsTest::paidByItsOwnBook);
        Check.end();
    }

    private static void theDesk() {
        PriceHouse x = new PriceHouse();
        for (int b = 1; b <= 9; b++) {
            x.article(b - 1 > 7 ? 7 : b - 1, 10 * b);
            Check.same("published", x.publish(), b);
            Check.same("active before", x.active(), b - 1);
            x.activate(b);
            Check.same("active", x.active(), b);
        }
    }

    private static void theTills() {
        for (int t = 0; t <= 3; t++) {
            PriceHouse x = new PriceHouse();
            x.publish();
            Shop.loseAll(x);
            x.activate(1);
            Check.same("fetched", x.fetch(t), 1);
            x.deliver(0);
            Check.same("loaded", x.loaded(t), 1);
            Check.same("asking", x.ask(t), 1);
            x.deliver(0);
            x.deliver(0);
            Check.same("lease", x.lease(t), 1);
            Check.same("basket", x.open(t), 0);
            Check.same("under the lease's book", x.book(0), 1);
        }
    }

    private static void unevenClocks() {
        // Tills 0 .. 2 at 99, 100 and 101; all three ask at 1.00 of their clocks.
        PriceHouse x = Shop.trading(1);
        x.tick(1);
        for (int t = 0; t <= 2; t++) {
            x.rate(t, 99 + t);
            Shop.lend(x, t);
        }
        x.tick(59);
        Check.same("58.41 are not 60", x.lease(0), 1);
        Check.same("59.00 are not 60", x.lease(1), 1);
        Check.same("59.59 are not 60", x.lease(2), 1);
        x.tick(1);
        Check.same("59.40 are not 60", x.lease(0), 1);
        Check.same("60.00", x.lease(1), 0);
        Check.same("60.60", x.lease(2), 0);
        x.tick(1);
        Check.same("60.39", x.lease(0), 0);
    }

    private static void letters() {
        PriceHouse x = Shop.trading(1);
        x.ask(0);
        x.lose(0);
        Check.same("a lost ASK", x.letters(), 0);
        x.ask(0);
        x.twin(0);
        x.deliver(0);
        x.deliver(0);
        Check.same("both are answered", x.letters(), 2);
        x.deliver(1);
        Check.same("the lease", x.lease(0), 1);
        x.ask(0);
        x.deliver(0);
        Check.same("a GRANT that comes too late", x.lease(0), 0);
    }

    /** The worst of clocks: the till's slow and at a full count, the desk's fast and just before the next. */
    private static PriceHouse worstClocks(int books) {
        PriceHouse x = Shop.trading(books);
        x.rate(4, 99);
        x.tick(1);
        x.rate(4, 101);
        x.rate(0, 99);
        return x;
    }

    private static void noOlderBook() {
        PriceHouse x = worstClocks(2);
        Shop.lend(x, 0);
        x.activate(2);
        boolean reported = false;
        int lastTick = 0;
        for (int tick = 1; tick <= 70; tick++) {
            x.tick(1);
            reported = reported || x.active() == 2;
            int leased = x.lease(0);
            lastTick = leased == 1 ? tick : lastTick;
            if (reported) {
                Check.same("lease at tick " + tick, leased, 0);
                Check.refusesState("a basket at tick " + tick, () -> x.open(0));
            }
        }
        Check.same("the lease was there till tick", lastTick, LONG);
        Check.same("the newer book was reported", reported ? 1 : 0, 1);
    }

    /** Every run of DEPTH out of the calls that take() has, at one till, its letters and the desk. */
    private static void noOlderBookInAnyShortRun() {
        goOn(false, new int[DEPTH], 0);
        // Letters of an asking that was given up need longer runs to do harm, so these begin with them.
        goOn(true, new int[DEPTH], 0);
        if (tried < 1000000) {
            Check.fail("only " + tried + " runs were tried");
        }
    }

    private static void goOn(boolean askedBefore, int[] steps, int done) {
        for (int step = 0; step <= 11; step++) {
            steps[done] = step;
            // A call that is refused changes nothing: the same run is tried without it.
            if (tryRun(askedBefore, steps, done + 1) && done + 1 < DEPTH) {
                goOn(askedBefore, steps, done + 1);
            }
        }
    }

    /** Fails if a run breaks the sentence; answers whether its last call was taken. */
    private static boolean tryRun(boolean askedBefore, int[] steps, int count) {
        PriceHouse x = worstClocks(2);
        if (askedBefore) {
            x.ask(0);
            x.giveUp(0);
            x.ask(0);
        }
        int reported = 1;
        boolean taken = true;
        for (int k = 0; k < count; k++) {
            taken = take(x, steps[k]);
            reported = x.active();
        }
        tried++;
        int leased = x.lease(0);
        if (leased != 0 && leased < reported && broken < TOLD) {
            broken++;
            Check.fail("steps " + Arrays.toString(Arrays.copyOf(steps, count)) + ": a lease of book " + leased
                    + " though book " + reported + " was reported active");
        }
        return taken;
    }

    private static boolean take(PriceHouse x, int step) {
        try {
            switch (step) {
                case 0: x.ask(0); break;
                case 1: x.giveUp(0); break;
                case 2: x.ready(0); break;
                case 3: x.activate(2); break;
                case 4: x.deliver(0); break;
                case 5: x.deliver(x.letters() - 1); break;
                case 6: x.twin(0); break;
                case 7: x.tick(1); break;
                case 8: x.tick(LONG); break;
                case 9: x.restart(0); break;
                case 10: x.restart(4); break;
                default: x.lose(0); break;
            }
            return true;
        } catch (IllegalStateException | IndexOutOfBoundsException e) {
            return false;
        }
    }

    private static void paidByItsOwnBook() {
        PriceHouse x = Shop.selling(100, 3, 250, 5, 390);
        x.open(0);
        x.open(0);
        for (int k = 0; k < 8; k++) {
            x.scan(0, 0, 1);
        }
        x.article(0, 1);
        x.bundle(0, 0, 0, 0);
        x.bundle(0, 1, 2, 0);
        x.publish();
        Shop.deliverAll(x);
        Shop.makeReady(x, 0);
        x.activate(2);
        Check.same("active", x.active(), 2);
        Shop.lend(x, 0);
        x.open(0);
        for (int k = 0; k < 8; k++) {
            x.scan(1, 0, 1);
            x.scan(2, 0, 1);
        }
        x.scan(2, 0, 1);
        Check.same("book 1: 3 + 5", x.pay(0), 640);
        Check.same("book 1, though scanned when book 2 was active", x.pay(1), 640);
        Check.same("book 2: four pairs for nothing and one piece", x.pay(2), 1);
    }
}
