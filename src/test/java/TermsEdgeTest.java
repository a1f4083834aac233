/** "What it is" and "Terms", up to the kinds of letters: one test for each sentence that names an edge. */
public final class TermsEdgeTest {
    public static void main(String[] args) {
        Check.sentence("An object is used for at most 512 calls after it has been made", TermsEdgeTest::calls512);
        Check.sentence("no basket is opened for an older book once a newer one was reported active",
                TermsEdgeTest::noOlderBasket);

        Check.sentence("ARTICLES are 0 .. 7", TermsEdgeTest::articles);
        Check.sentence("TILLS 0 .. 3", TermsEdgeTest::tills);
        Check.sentence("BOOKS are numbered 1, 2, .. (at most 9)", TermsEdgeTest::books);
        Check.sentence("for each article a price (0 at first: it is not sold)", TermsEdgeTest::priceAtFirst);
        Check.sentence("two BUNDLES (slots 0, 1)", TermsEdgeTest::bundleSlots);
        Check.sentence("so many pieces (2 .. 12) for so much", TermsEdgeTest::bundlePieces);
        Check.sentence("or none", TermsEdgeTest::noBundle);
        Check.sentence("A book is the draft as it was when it was published.", TermsEdgeTest::bookIsTheDraft);

        Check.sentence("CLOCKS. True time goes on in ticks", TermsEdgeTest::timeGoesOnInTicks);
        Check.sentence("each clock (of tills 0 .. 3, and 4, the desk's)", TermsEdgeTest::clocks);
        Check.sentence("has a RATE 99 .. 101", TermsEdgeTest::rates);
        Check.sentence("(100 at first)", TermsEdgeTest::rateAtFirst);
        Check.sentence("with each tick its hundredths grow by it", TermsEdgeTest::hundredthsGrow);
        Check.sentence("it shows them divided by 100", TermsEdgeTest::hundredthsShown);

        Check.sentence("LETTERS lie in a row, at most 40", TermsEdgeTest::rowOf40);
        Check.sentence("new ones come behind", TermsEdgeTest::comeBehind);
        Check.sentence("(one without room is lost)", TermsEdgeTest::lostWithoutRoom);
        Check.sentence("BOOK (to a till): a book's number", TermsEdgeTest::bookLetter);
        Check.sentence("the till takes it if it has all books before it", TermsEdgeTest::booksBefore);
        Check.sentence("and not this one", TermsEdgeTest::notThisOne);
        Check.sentence("ASK (to the desk): a till, an ASKING.", TermsEdgeTest::askLetter);
        Check.sentence("GRANT (to a till): an asking, a book.", TermsEdgeTest::grantLetter);
        Check.sentence("READY (to the desk): a till, a book.", TermsEdgeTest::readyLetter);
        Check.sentence("GIVEN (to the desk): a till, an asking.", TermsEdgeTest::givenLetter);
        Check.end();
    }

    private static void calls512() {
        PriceHouse x = new PriceHouse();
        x.rate(4, 101);
        for (int call = 2; call <= 511; call++) {
            x.tick(500);
        }
        Check.same("call 512, as far as a clock can go", x.tick(500), 511 * 505);

        PriceHouse y = new PriceHouse();
        for (int call = 1; call <= 512; call++) {
            Check.same("call " + call, y.ask(3), call);
        }
    }

    private static void noOlderBasket() {
        // The till's clock as slow and the desk's as fast as they may be, whatever hundredths they begin with.
        for (int before = 0; before < 100; before++) {
            PriceHouse x = Shop.trading(2);
            x.rate(0, 99);
            x.rate(4, 101);
            if (before > 0) {
                x.tick(before);
            }
            Shop.lend(x, 0);
            x.activate(2);
            int ticks = 0;
            while (ticks < 70 && x.active() == 1) {
                x.tick(1);
                ticks++;
            }
            Check.same("the change ends", x.active(), 2);
            Check.refusesState("a basket of book 1, " + ticks + " ticks on", () -> x.open(0));
        }
    }

    private static void articles() {
        PriceHouse x = new PriceHouse();
        for (int a = 0; a <= 7; a++) {
            x.article(a, a + 1);
            x.bundle(a, 0, 2, a);
        }
        Shop.opened(x);
        x.open(0);
        for (int a = 0; a <= 7; a++) {
            Check.same("price of article " + a, x.price(1, a), a + 1);
            Check.same("scan of article " + a, x.scan(0, a, 1), 1);
        }
        for (int a : Shop.outside(0, 7)) {
            Check.refusesArgument("article " + a, () -> x.article(a, 1));
            Check.refusesArgument("bundle of article " + a, () -> x.bundle(a, 0, 2, 1));
            Check.refusesArgument("price of article " + a, () -> x.price(1, a));
            Check.refusesArgument("scan of article " + a, () -> x.scan(0, a, 1));
        }
    }

    private static void tills() {
        PriceHouse x = Shop.trading(1);
        for (int t = 0; t <= 3; t++) {
            Check.same("loaded", x.loaded(t), 1);
            Check.same("fetch", x.fetch(t), 0);
            Check.same("ready", x.ready(t), 1);
            Check.same("ask", x.ask(t), 1);
            Shop.deliverAll(x);
            Check.same("lease", x.lease(t), 1);
            Check.same("open", x.open(t), t);
            x.restart(t);
            x.ask(t);
            x.giveUp(t);
        }
        for (int t : Shop.outside(0, 3)) {
            Check.refusesArgument("loaded " + t, () -> x.loaded(t));
            Check.refusesArgument("fetch " + t, () -> x.fetch(t));
            Check.refusesArgument("ready " + t, () -> x.ready(t));
            Check.refusesArgument("ask " + t, () -> x.ask(t));
            Check.refusesArgument("lease " + t, () -> x.lease(t));
            Check.refusesArgument("open " + t, () -> x.open(t));
            Check.refusesArgument("giveUp " + t, () -> x.giveUp(t));
        }
    }

    private static void books() {
        PriceHouse x = new PriceHouse();
        for (int b = 1; b <= 9; b++) {
            Check.same("publish", x.publish(), b);
        }
        Check.refusesState("a tenth book", () -> x.publish());
        Check.same("the first", x.price(1, 0), 0);
        Check.same("the last", x.price(9, 0), 0);
        for (int b : Shop.outside(1, 9)) {
            Check.refusesArgument("price in book " + b, () -> x.price(b, 0));
            Check.refusesArgument("activate " + b, () -> x.activate(b));
        }
        x.activate(9);
        Check.same("active", x.active(), 9);
    }

    private static void priceAtFirst() {
        PriceHouse x = new PriceHouse();
        x.article(6, 1);
        x.bundle(5, 0, 2, 1);
        Shop.opened(x);
        x.open(0);
        for (int a = 0; a <= 7; a++) {
            int article = a;
            Check.same("price of article " + a, x.price(1, a), a == 6 ? 1 : 0);
            if (a != 6) {
                Check.refusesArgument("article " + a + " is not sold", () -> x.scan(0, article, 1));
            }
        }
        Check.same("the least price sells", x.scan(0, 6, 1), 1);
    }

    private static void bundleSlots() {
        PriceHouse x = Shop.selling(100, 2, 150, 3, 160);
        Check.same("slot 0", Shop.paidFor(x, 0, 2), 150);
        Check.same("slot 1", Shop.paidFor(x, 0, 3), 160);
        Check.same("both", Shop.paidFor(x, 0, 5), 310);
        for (int slot : Shop.outside(0, 1)) {
            Check.refusesArgument("slot " + slot, () -> x.bundle(0, slot, 2, 1));
        }
    }

    private static void bundlePieces() {
        PriceHouse x = Shop.selling(100, 2, 1, 0, 0);
        Check.same("one of a bundle of 2", Shop.paidFor(x, 0, 1), 100);
        Check.same("a bundle of 2", Shop.paidFor(x, 0, 2), 1);
        PriceHouse y = Shop.selling(100, 0, 0, 12, 1);
        Check.same("eleven of a bundle of 12", Shop.paidFor(y, 0, 11), 1100);
        Check.same("a bundle of 12", Shop.paidFor(y, 0, 12), 1);
        for (int n : Shop.outside(2, 12)) {
            Check.refusesArgument("a bundle of " + n, () -> x.bundle(0, 0, n, 1));
        }
    }

    private static void noBundle() {
        PriceHouse x = Shop.selling(100);
        Check.same("none at first", Shop.paidFor(x, 0, 30), 3000);
        PriceHouse y = Shop.selling(100, 0, 0, 0, 1);
        Check.same("none by 0 pieces", Shop.paidFor(y, 0, 30), 3000);
    }

    private static void bookIsTheDraft() {
        PriceHouse x = new PriceHouse();
        x.article(0, 10);
        x.bundle(0, 0, 2, 11);
        x.bundle(0, 1, 3, 12);
        x.publish();
        x.article(0, 20);
        x.article(1, 21);
        x.bundle(0, 0, 4, 1);
        x.bundle(0, 1, 0, 0);
        Shop.deliverAll(x);
        x.activate(1);
        Shop.lend(x, 0);
        Check.same("its price", x.price(1, 0), 10);
        Check.same("what it does not sell", x.price(1, 1), 0);
        Check.same("its bundle in slot 0", Shop.paidFor(x, 0, 2), 11);
        Check.same("its bundle in slot 1", Shop.paidFor(x, 0, 3), 12);
        Check.same("no bundle but these", Shop.paidFor(x, 0, 4), 22);
    }

    private static void timeGoesOnInTicks() {
        PriceHouse x = Shop.trading(2);
        Shop.lend(x, 0);
        for (int k = 0; k < 70; k++) {
            x.rate(k % 5, 100);
            x.ask(1);
            x.deliver(0);
            x.lose(0);
            x.restart(2);
        }
        Check.same("no other call lets a till's clock go on", x.lease(0), 1);
        Check.same("nor the desk's", x.tick(1), 1);
    }

    private static void clocks() {
        for (int slow = 0; slow <= 4; slow++) {
            PriceHouse x = Shop.trading(1);
            x.rate(slow, 99);
            for (int t = 0; t <= 3; t++) {
                Shop.lend(x, t);
            }
            Check.same("the desk's clock, " + slow + " is slow", x.tick(60), slow == 4 ? 59 : 60);
            for (int t = 0; t <= 3; t++) {
                Check.same("till " + t + ", " + slow + " is slow", x.lease(t), t == slow ? 1 : 0);
            }
        }
        PriceHouse y = new PriceHouse();
        for (int who : Shop.outside(0, 4)) {
            Check.refusesArgument("rate of " + who, () -> y.rate(who, 100));
        }
    }

    private static void rates() {
        for (int percent = 99; percent <= 101; percent++) {
            PriceHouse x = new PriceHouse();
            x.rate(4, percent);
            Check.same("rate " + percent, x.tick(100), percent);
        }
        PriceHouse y = new PriceHouse();
        for (int who = 0; who <= 4; who++) {
            int clock = who;
            for (int percent : Shop.outside(99, 101)) {
                Check.refusesArgument("rate " + percent + " of " + who, () -> y.rate(clock, percent));
            }
        }
    }

    private static void rateAtFirst() {
        PriceHouse x = Shop.trading(1);
        for (int t = 0; t <= 3; t++) {
            Shop.lend(x, t);
        }
        Check.same("the desk's", x.tick(59), 59);
        for (int t = 0; t <= 3; t++) {
            Check.same("till " + t + " at 59", x.lease(t), 1);
        }
        Check.same("the desk's", x.tick(1), 60);
        for (int t = 0; t <= 3; t++) {
            Check.same("till " + t + " at 60", x.lease(t), 0);
        }
    }

    private static void hundredthsGrow() {
        PriceHouse x = new PriceHouse();
        x.rate(4, 99);
        Check.same("100 ticks of 99", x.tick(100), 99);
        x.rate(4, 101);
        Check.same("100 ticks of 101", x.tick(100), 200);
        x.rate(4, 99);
        Check.same("one tick of 99", x.tick(1), 200);
        x.rate(4, 101);
        Check.same("and one of 101", x.tick(1), 202);
    }

    private static void hundredthsShown() {
        PriceHouse x = new PriceHouse();
        x.rate(4, 99);
        Check.same("99 hundredths", x.tick(1), 0);
        Check.same("198 hundredths", x.tick(1), 1);
        x.rate(4, 101);
        Check.same("299 hundredths", x.tick(1), 2);
        Check.same("400 hundredths", x.tick(1), 4);
    }

    private static void rowOf40() {
        PriceHouse x = new PriceHouse();
        Check.same("an empty row", x.letters(), 0);
        for (int k = 1; k <= 40; k++) {
            x.ask(0);
            Check.same("the row", x.letters(), k);
        }
        Check.same("the last", x.letter(39, 3), 40);
        x.ask(0);
        Check.same("a full row", x.letters(), 40);
        Check.same("the last", x.letter(39, 3), 40);
        Check.same("the first", x.letter(0, 3), 1);
    }

    private static void comeBehind() {
        PriceHouse x = Shop.trading(1);
        x.ask(2);
        x.ready(1);
        x.twin(0);
        x.giveUp(2);
        x.publish();
        int[] kinds = {1, 3, 1, 4, 0, 0, 0, 0};
        for (int i = 0; i < 8; i++) {
            Check.same("letter " + i, x.letter(i, 0), kinds[i]);
        }
        x.deliver(0);
        Check.same("the answer to the first", x.letter(7, 0), 2);
        Check.same("letters", x.letters(), 8);
    }

    private static void lostWithoutRoom() {
        PriceHouse x = Shop.trading(1);
        x.ask(0);
        Shop.fillRow(x);
        Check.same("publish", x.publish(), 2);
        Check.same("fetch", x.fetch(1), 1);
        Check.same("ready", x.ready(1), 1);
        Check.same("ask", x.ask(1), 1);
        x.giveUp(1);
        Check.same("letters", x.letters(), 40);
        for (int i = 0; i < 40; i++) {
            Check.same("the kind of letter " + i, x.letter(i, 0), 1);
            Check.same("the till of letter " + i, x.letter(i, 1), 0);
        }
        x.lose(0);
        Check.same("room does not bring one back", x.letters(), 39);
        Check.same("but serves the next", x.fetch(2), 1);
        Shop.letterIs("the next", x, 39, 0, 2, 2, 0);
    }

    private static void bookLetter() {
        PriceHouse x = new PriceHouse();
        for (int b = 1; b <= 9; b++) {
            x.publish();
            for (int t = 0; t <= 3; t++) {
                Shop.letterIs("BOOK " + b, x, t, 0, t, b, 0);
            }
            Shop.deliverAll(x);
            Check.same("loaded", x.loaded(3), b);
        }
    }

    private static void booksBefore() {
        PriceHouse x = new PriceHouse();
        x.publish();
        x.publish();
        x.publish();
        Shop.loseAll(x);
        x.fetch(0);
        x.twin(1);
        x.deliver(2);
        Check.same("book 3 without 1 and 2", x.loaded(0), 0);
        x.deliver(1);
        Check.same("book 2 without 1", x.loaded(0), 0);
        x.deliver(0);
        Check.same("book 1", x.loaded(0), 1);
        x.fetch(0);
        x.deliver(2);
        Check.same("book 3 without 2", x.loaded(0), 1);
        x.deliver(0);
        Check.same("book 2 with 1", x.loaded(0), 2);
    }

    private static void notThisOne() {
        PriceHouse x = new PriceHouse();
        x.publish();
        x.publish();
        Shop.loseAll(x);
        x.fetch(0);
        x.fetch(0);
        x.deliver(0);
        x.deliver(0);
        Check.same("both", x.loaded(0), 2);
        x.deliver(1);
        Check.same("book 2 once more", x.loaded(0), 2);
        x.deliver(0);
        Check.same("book 1 once more", x.loaded(0), 2);
        Check.same("nothing is missing", x.fetch(0), 0);
    }

    private static void askLetter() {
        PriceHouse x = new PriceHouse();
        x.ask(0);
        x.ask(3);
        x.ask(3);
        Shop.letterIs("ASK", x, 0, 1, 0, 0, 1);
        Shop.letterIs("ASK", x, 1, 1, 3, 0, 1);
        Shop.letterIs("ASK", x, 2, 1, 3, 0, 2);
    }

    private static void grantLetter() {
        PriceHouse x = Shop.withBooks(3);
        x.activate(3);
        x.ask(0);
        x.ask(2);
        x.ask(2);
        x.deliver(2);
        x.deliver(0);
        x.lose(0);
        Shop.letterIs("GRANT", x, 0, 2, 2, 3, 2);
        Shop.letterIs("GRANT", x, 1, 2, 0, 3, 1);
        x.deliver(0);
        Check.same("it comes to its till", x.lease(2), 3);
        Check.same("and to no other", x.lease(0), 0);
    }

    private static void readyLetter() {
        PriceHouse x = Shop.withBooks(2);
        x.ready(0);
        x.ready(3);
        Shop.letterIs("READY", x, 0, 3, 0, 2, 0);
        Shop.letterIs("READY", x, 1, 3, 3, 2, 0);
    }

    private static void givenLetter() {
        PriceHouse x = new PriceHouse();
        x.ask(0);
        x.ask(3);
        x.ask(3);
        Shop.loseAll(x);
        x.giveUp(0);
        x.giveUp(3);
        Shop.letterIs("GIVEN", x, 0, 4, 0, 0, 1);
        Shop.letterIs("GIVEN", x, 1, 4, 3, 0, 2);
    }
}
