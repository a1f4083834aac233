/** Promises 15 (deliver), 16 (lose), 17 (twin), 18 (letter) and 19 (letters). */
public final class LetterTest {
    public static void main(String[] args) {
        deliverTakesOneOut();
        answersComeBehind();
        anAnswerHasRoom();
        loseTakesOneOut();
        twinComesBehind();
        letterTellsOfEachKind();
        indicesAreRefused();
        Check.end();
    }

    /** A row of four BOOK letters to tills 0 .. 3. */
    private static PriceHouse fourLetters() {
        PriceHouse x = new PriceHouse();
        x.publish();
        return x;
    }

    private static void deliverTakesOneOut() {
        PriceHouse x = fourLetters();
        x.deliver(1);
        Check.same("letters", x.letters(), 3);
        Check.same("till 1 has it", x.loaded(1), 1);
        Check.same("till 0 has not", x.loaded(0), 0);
        Check.same("the first stays", x.letter(0, 1), 0);
        Check.same("the next moves up", x.letter(1, 1), 2);
        x.deliver(2);
        Check.same("the last", x.loaded(3), 1);
        Check.same("letters", x.letters(), 2);
    }

    private static void answersComeBehind() {
        PriceHouse x = Shop.trading(1);
        x.ask(0);
        x.ask(1);
        x.deliver(0);
        Check.same("letters", x.letters(), 2);
        Shop.letterIs("the other asking", x, 0, 1, 1, 0, 1);
        Shop.letterIs("the answer", x, 1, 2, 0, 1, 1);
    }

    private static void anAnswerHasRoom() {
        PriceHouse x = Shop.trading(1);
        x.ask(0);
        Shop.fillRow(x);
        x.deliver(39);
        Check.same("letters", x.letters(), 40);
        Shop.letterIs("the answer", x, 39, 2, 0, 1, 1);
        x.deliver(39);
        Check.same("lease", x.lease(0), 1);
    }

    private static void loseTakesOneOut() {
        PriceHouse x = fourLetters();
        x.lose(2);
        Check.same("letters", x.letters(), 3);
        Check.same("till 2 has it not", x.loaded(2), 0);
        Check.same("those before stay", x.letter(1, 1), 1);
        Check.same("the next moves up", x.letter(2, 1), 3);
        Shop.deliverAll(x);
        Check.same("till 3", x.loaded(3), 1);
        Check.same("till 2", x.loaded(2), 0);
    }

    private static void twinComesBehind() {
        PriceHouse x = fourLetters();
        x.twin(2);
        Check.same("letters", x.letters(), 5);
        Shop.letterIs("the letter", x, 2, 0, 2, 1, 0);
        Shop.letterIs("the twin", x, 4, 0, 2, 1, 0);
        Shop.fillRow(x);
        Check.refusesState("no room", () -> x.twin(0));
        Check.refusesIndex("no room and no such letter", () -> x.twin(40));
        Check.same("letters", x.letters(), 40);
        x.lose(0);
        x.twin(0);
        Check.same("room for one", x.letters(), 40);
        Check.same("its till", x.letter(39, 1), 1);
    }

    private static void letterTellsOfEachKind() {
        PriceHouse x = Shop.trading(2);
        x.fetch(1);
        x.publish();
        x.lose(0);
        x.lose(0);
        x.lose(1);
        Shop.letterIs("BOOK", x, 0, 0, 2, 3, 0);
        x.ask(1);
        x.ask(1);
        Shop.letterIs("ASK", x, 2, 1, 1, 0, 2);
        x.deliver(2);
        Shop.letterIs("GRANT", x, 2, 2, 1, 1, 2);
        x.ready(3);
        Shop.letterIs("READY", x, 3, 3, 3, 2, 0);
        x.giveUp(1);
        Shop.letterIs("GIVEN", x, 4, 4, 1, 0, 2);
        x.twin(4);
        Shop.letterIs("a twin of GIVEN", x, 5, 4, 1, 0, 2);
        for (int what : new int[] {-1, 4, 5, Integer.MIN_VALUE, Integer.MAX_VALUE}) {
            Check.refusesArgument("what " + what, () -> x.letter(0, what));
            Check.refusesIndex("no such letter first", () -> x.letter(6, what));
        }
    }

    private static void indicesAreRefused() {
        PriceHouse empty = new PriceHouse();
        Check.refusesIndex("deliver", () -> empty.deliver(0));
        Check.refusesIndex("lose", () -> empty.lose(0));
        Check.refusesIndex("twin", () -> empty.twin(0));
        Check.refusesIndex("letter", () -> empty.letter(0, 0));
        PriceHouse x = fourLetters();
        for (int i : new int[] {-1, 4, 40, Integer.MIN_VALUE, Integer.MAX_VALUE}) {
            Check.refusesIndex("deliver " + i, () -> x.deliver(i));
            Check.refusesIndex("lose " + i, () -> x.lose(i));
            Check.refusesIndex("twin " + i, () -> x.twin(i));
            Check.refusesIndex("letter " + i, () -> x.letter(i, 0));
        }
        Check.same("letters", x.letters(), 4);
    }
}
