/** Promises 15 to 19, the row of letters: one test for each sentence, or for a part of it. */
public final class Promises15To19EdgeTest {
    private static final String NO_LETTER = "IndexOutOfBoundsException if there is no such letter";

    public static void main(String[] args) {
        Check.promise(15, "Letter i is taken out", Promises15To19EdgeTest::deliverTakesOut);
        Check.promise(15, "and comes to where it goes", Promises15To19EdgeTest::deliverBrings);
        Check.promise(15, NO_LETTER, Promises15To19EdgeTest::deliverOfNoLetter);

        Check.promise(16, "Letter i is lost.", Promises15To19EdgeTest::loseTakesOut);
        Check.promise(16, NO_LETTER, Promises15To19EdgeTest::loseOfNoLetter);

        Check.promise(17, "One more like letter i comes behind.", Promises15To19EdgeTest::twinComesBehind);
        Check.promise(17, NO_LETTER, Promises15To19EdgeTest::twinOfNoLetter);
        Check.promise(17, "IllegalStateException if there is no room", Promises15To19EdgeTest::twinWithoutRoom);

        Check.promise(18, "its kind (what = 0: 0 BOOK, 1 ASK, 2 GRANT, 3 READY, 4 GIVEN)",
                Promises15To19EdgeTest::letterTellsItsKind);
        Check.promise(18, "its till (1)", Promises15To19EdgeTest::letterTellsItsTill);
        Check.promise(18, "its book (2; 0 if it names none)", Promises15To19EdgeTest::letterTellsItsBook);
        Check.promise(18, "its asking (3; 0 if it names none)", Promises15To19EdgeTest::letterTellsItsAsking);
        Check.promise(18, NO_LETTER, Promises15To19EdgeTest::letterOfNoLetter);
        Check.promise(18, "IllegalArgumentException if there is no such what", Promises15To19EdgeTest::letterOfNoWhat);

        Check.promise(19, "How many letters lie in the row.", Promises15To19EdgeTest::lettersTells);
        Check.end();
    }

    /** BOOK letters to tills 0 .. 3. */
    private static PriceHouse fourLetters() {
        PriceHouse x = new PriceHouse();
        x.publish();
        return x;
    }

    /** BOOK to till 3 of book 3, ASK and GRANT of till 2's second asking, its READY and its GIVEN. */
    private static PriceHouse allKinds() {
        PriceHouse x = Shop.withBooks(2);
        x.activate(2);
        x.publish();
        for (int k = 0; k < 3; k++) {
            x.lose(0);
        }
        x.ask(2);
        x.lose(1);
        x.ask(2);
        x.twin(1);
        x.deliver(2);
        x.ready(2);
        x.giveUp(2);
        return x;
    }

    private static void tillsInTheRow(String what, PriceHouse x, int... tills) {
        Check.same(what + ": letters", x.letters(), tills.length);
        for (int i = 0; i < tills.length; i++) {
            Shop.letterIs(what + ": letter " + i, x, i, 0, tills[i], 1, 0);
        }
    }

    private static void deliverTakesOut() {
        PriceHouse first = fourLetters();
        first.deliver(0);
        tillsInTheRow("the first", first, 1, 2, 3);
        PriceHouse middle = fourLetters();
        middle.deliver(1);
        tillsInTheRow("one between", middle, 0, 2, 3);
        PriceHouse last = fourLetters();
        last.deliver(3);
        tillsInTheRow("the last", last, 0, 1, 2);
        Shop.deliverAll(last);
        tillsInTheRow("all", last);

        // Its own place serves the answer to it.
        PriceHouse full = Shop.trading(1);
        full.ask(0);
        Shop.fillRow(full);
        full.deliver(0);
        Check.same("letters", full.letters(), 40);
        Shop.letterIs("the answer", full, 39, 2, 0, 1, 1);
        full.deliver(39);
        Check.same("letters", full.letters(), 39);
    }

    private static void deliverBrings() {
        PriceHouse x = fourLetters();
        x.deliver(2);
        for (int t = 0; t <= 3; t++) {
            Check.same("BOOK comes to till 2: till " + t, x.loaded(t), t == 2 ? 1 : 0);
        }
        Shop.deliverAll(x);
        x.activate(1);
        x.ask(1);
        x.deliver(0);
        Shop.letterIs("ASK comes to the desk", x, 0, 2, 1, 1, 1);
        x.deliver(0);
        for (int t = 0; t <= 3; t++) {
            Check.same("GRANT comes to till 1: till " + t, x.lease(t), t == 1 ? 1 : 0);
        }
        Check.same("letters", x.letters(), 0);
        x.publish();
        Shop.deliverAll(x);
        x.activate(2);
        Check.same("a change", x.active(), 1);
        x.ready(1);
        x.deliver(0);
        Check.same("READY comes to the desk", x.active(), 2);
        Shop.lend(x, 1);
        x.publish();
        Shop.deliverAll(x);
        x.activate(3);
        Check.same("a change", x.active(), 2);
        x.giveUp(1);
        x.deliver(0);
        Check.same("GIVEN comes to the desk", x.active(), 3);
    }

    private static void deliverOfNoLetter() {
        PriceHouse x = new PriceHouse();
        Check.refusesIndex("an empty row", () -> x.deliver(0));
        x.publish();
        for (int i : Shop.outside(0, 3)) {
            Check.refusesIndex("letter " + i, () -> x.deliver(i));
        }
        tillsInTheRow("a refused call", x, 0, 1, 2, 3);
        Shop.fillRow(x);
        Check.refusesIndex("a full row", () -> x.deliver(40));
        x.deliver(39);
        x.deliver(0);
        Check.same("letters", x.letters(), 38);
    }

    private static void loseTakesOut() {
        PriceHouse first = fourLetters();
        first.lose(0);
        tillsInTheRow("the first", first, 1, 2, 3);
        PriceHouse middle = fourLetters();
        middle.lose(2);
        tillsInTheRow("one between", middle, 0, 1, 3);
        Check.same("it does not come", middle.loaded(2), 0);
        PriceHouse last = fourLetters();
        last.lose(3);
        tillsInTheRow("the last", last, 0, 1, 2);
        Shop.loseAll(last);
        tillsInTheRow("all", last);
        for (int t = 0; t <= 3; t++) {
            Check.same("none has come", last.loaded(t), 0);
        }
    }

    private static void loseOfNoLetter() {
        PriceHouse x = new PriceHouse();
        Check.refusesIndex("an empty row", () -> x.lose(0));
        x.publish();
        for (int i : Shop.outside(0, 3)) {
            Check.refusesIndex("letter " + i, () -> x.lose(i));
        }
        tillsInTheRow("a refused call", x, 0, 1, 2, 3);
        Shop.fillRow(x);
        Check.refusesIndex("a full row", () -> x.lose(40));
        x.lose(39);
        x.lose(0);
        Check.same("letters", x.letters(), 38);
    }

    private static void twinComesBehind() {
        PriceHouse x = fourLetters();
        x.twin(3);
        x.twin(0);
        x.twin(1);
        tillsInTheRow("twins", x, 0, 1, 2, 3, 3, 0, 1);
        PriceHouse y = allKinds();
        for (int i = 0; i < 5; i++) {
            y.twin(i);
            for (int what = 0; what <= 3; what++) {
                Check.same("twin of letter " + i + ", " + what, y.letter(5 + i, what), y.letter(i, what));
            }
        }
    }

    private static void twinOfNoLetter() {
        PriceHouse x = new PriceHouse();
        Check.refusesIndex("an empty row", () -> x.twin(0));
        x.publish();
        for (int i : Shop.outside(0, 3)) {
            Check.refusesIndex("letter " + i, () -> x.twin(i));
        }
        tillsInTheRow("a refused call", x, 0, 1, 2, 3);
        Shop.fillRow(x);
        for (int i : Shop.outside(0, 39)) {
            Check.refusesIndex("letter " + i + " of a full row", () -> x.twin(i));
        }
    }

    private static void twinWithoutRoom() {
        PriceHouse x = fourLetters();
        while (x.letters() < 39) {
            x.twin(0);
        }
        x.twin(1);
        Check.same("the fortieth", x.letters(), 40);
        Shop.letterIs("the fortieth", x, 39, 0, 1, 1, 0);
        Check.refusesState("one more like the first", () -> x.twin(0));
        Check.refusesState("one more like the last", () -> x.twin(39));
        Check.same("letters", x.letters(), 40);
        Shop.letterIs("the last is as it was", x, 39, 0, 1, 1, 0);
        x.lose(5);
        x.twin(2);
        Shop.letterIs("room again", x, 39, 0, 2, 1, 0);
    }

    private static void letterTellsItsKind() {
        PriceHouse x = allKinds();
        int[] kinds = {0, 1, 2, 3, 4};
        for (int i = 0; i < 5; i++) {
            Check.same("letter " + i, x.letter(i, 0), kinds[i]);
        }
    }

    private static void letterTellsItsTill() {
        PriceHouse x = allKinds();
        int[] tills = {3, 2, 2, 2, 2};
        for (int i = 0; i < 5; i++) {
            Check.same("letter " + i, x.letter(i, 1), tills[i]);
        }
    }

    private static void letterTellsItsBook() {
        PriceHouse x = allKinds();
        int[] books = {3, 0, 2, 2, 0};
        for (int i = 0; i < 5; i++) {
            Check.same("letter " + i, x.letter(i, 2), books[i]);
        }
    }

    private static void letterTellsItsAsking() {
        PriceHouse x = allKinds();
        int[] askings = {0, 2, 2, 0, 2};
        for (int i = 0; i < 5; i++) {
            Check.same("letter " + i, x.letter(i, 3), askings[i]);
        }
    }

    private static void letterOfNoLetter() {
        PriceHouse x = new PriceHouse();
        for (int what = -1; what <= 4; what++) {
            int w = what;
            Check.refusesIndex("an empty row, " + what, () -> x.letter(0, w));
        }
        x.publish();
        for (int i : Shop.outside(0, 3)) {
            for (int what = -1; what <= 4; what++) {
                int w = what;
                Check.refusesIndex("letter " + i + ", " + what, () -> x.letter(i, w));
            }
        }
        Check.same("the first", x.letter(0, 1), 0);
        Check.same("the last", x.letter(3, 1), 3);
        Shop.fillRow(x);
        Check.same("the last of a full row", x.letter(39, 2), 1);
        Check.refusesIndex("behind it", () -> x.letter(40, 2));
    }

    private static void letterOfNoWhat() {
        PriceHouse x = allKinds();
        for (int what : Shop.outside(0, 3)) {
            for (int i = 0; i < 5; i++) {
                int letter = i;
                Check.refusesArgument("letter " + i + ", " + what, () -> x.letter(letter, what));
            }
        }
        Check.same("the first", x.letter(1, 0), 1);
        Check.same("the last", x.letter(1, 3), 2);
    }

    private static void lettersTells() {
        PriceHouse x = new PriceHouse();
        Check.same("none", x.letters(), 0);
        x.ask(0);
        Check.same("one", x.letters(), 1);
        x.twin(0);
        Check.same("two", x.letters(), 2);
        x.deliver(0);
        Check.same("one", x.letters(), 1);
        x.lose(0);
        Check.same("none", x.letters(), 0);
        x.ask(0);
        Shop.fillRow(x);
        Check.same("forty", x.letters(), 40);
        x.publish();
        Check.same("still forty", x.letters(), 40);
    }
}
