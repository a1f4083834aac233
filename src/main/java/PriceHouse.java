import java.util.NoSuchElementException;

/** Price books of shops, the leases that tills have of them, and the baskets opened under these. */
public final class PriceHouse {
    private static final int ARTICLES = 8;
    private static final int SLOTS = 2;
    private static final int MIN_BUNDLE = 2;
    private static final int MAX_BUNDLE = 12;
    private static final int MAX_CENTS = 10000000;
    private static final int MAX_PIECES = 30;
    private static final int MAX_BOOKS = 9;

    private static final int TILLS = 4;
    private static final int DESK = 4;
    private static final int MIN_RATE = 99;
    private static final int MAX_RATE = 101;
    private static final int MAX_TICKS = 500;

    private static final int LEASE_TIME = 60;
    // By the desk's clock. It is more than LEASE_TIME so that a lease has surely ended at its till,
    // however far apart the rates of the two clocks are.
    private static final int SAFE_TIME = 63;

    private static final int MAX_LETTERS = 40;
    private static final int BOOK = 0;
    private static final int ASK = 1;
    private static final int GRANT = 2;
    private static final int READY = 3;
    private static final int GIVEN = 4;

    private static final int MAX_BASKETS = 40;
    private static final int MAX_OPEN = 3;

    private final PriceList draft;
    // Book number b stands at b - 1.
    private final PriceList[] books;
    private int published;
    private final Till[] tills;
    private final Desk desk;
    private final LetterRow row;
    private final Basket[] baskets;
    private int basketCount;
    // Used again by each payment, as nothing that a call makes is ever given back.
    private final long[] leastRow;

    public PriceHouse() {
        draft = new PriceList();
        books = new PriceList[MAX_BOOKS];
        for (int b = 0; b < MAX_BOOKS; b++) {
            books[b] = new PriceList();
        }
        tills = new Till[TILLS];
        for (int t = 0; t < TILLS; t++) {
            tills[t] = new Till();
        }
        desk = new Desk();
        row = new LetterRow();
        baskets = new Basket[MAX_BASKETS];
        for (int k = 0; k < MAX_BASKETS; k++) {
            baskets[k] = new Basket();
        }
        leastRow = new long[MAX_PIECES + 1];
    }

    // ---- the desk's books ----

    public void article(int a, int cents) throws IllegalArgumentException {
        if (!isArticle(a) || !isAmount(cents)) {
            throw new IllegalArgumentException();
        }
        draft.prices[a] = cents;
    }

    public void bundle(int a, int slot, int n, int cents) throws IllegalArgumentException {
        if (!isArticle(a) || !isSlot(slot) || !isBundleSize(n) || !isAmount(cents)) {
            throw new IllegalArgumentException();
        }
        draft.sizes[a * SLOTS + slot] = n;
        draft.costs[a * SLOTS + slot] = cents;
    }

    public int publish() throws IllegalStateException {
        if (published >= MAX_BOOKS) {
            throw new IllegalStateException();
        }
        books[published].copyFrom(draft);
        published++;
        for (int t = 0; t < TILLS; t++) {
            row.post(BOOK, t, published, 0);
        }
        return published;
    }

    public int price(int book, int a) throws IllegalArgumentException {
        if (!isBook(book) || !isArticle(a)) {
            throw new IllegalArgumentException();
        }
        return books[book - 1].prices[a];
    }

    public void activate(int book) throws IllegalArgumentException, IllegalStateException {
        if (!isBook(book)) {
            throw new IllegalArgumentException();
        }
        if (book <= desk.activeBook || book <= desk.changeTo) {
            throw new IllegalStateException();
        }
        desk.changeTo = book;
        desk.lookAtChange();
    }

    public int active() {
        return desk.activeBook;
    }

    // ---- clocks ----

    public int tick(int n) throws IllegalArgumentException {
        if (n < 1 || n > MAX_TICKS) {
            throw new IllegalArgumentException();
        }
        for (int t = 0; t < TILLS; t++) {
            tills[t].clock.go(n);
        }
        desk.clock.go(n);
        // One look is as good as one behind each tick: time alone only brings a change nearer to
        // its end, and nobody can ask between the ticks.
        desk.lookAtChange();
        return desk.clock.shown();
    }

    public void rate(int who, int percent) throws IllegalArgumentException {
        if (!isTillOrDesk(who) || percent < MIN_RATE || percent > MAX_RATE) {
            throw new IllegalArgumentException();
        }
        Clock clock = who == DESK ? desk.clock : tills[who].clock;
        clock.perTick = percent;
    }

    // ---- tills ----

    public int fetch(int till) throws IllegalArgumentException {
        checkTill(till);
        int has = tills[till].bookCount;
        for (int b = has + 1; b <= published; b++) {
            row.post(BOOK, till, b, 0);
        }
        return published - has;
    }

    public int ready(int till) throws IllegalArgumentException, IllegalStateException {
        checkTill(till);
        int greatest = tills[till].bookCount;
        if (greatest == 0) {
            throw new IllegalStateException();
        }
        tills[till].readyFor = greatest;
        row.post(READY, till, greatest, 0);
        return greatest;
    }

    public int ask(int till) throws IllegalArgumentException {
        checkTill(till);
        int asking = tills[till].beginAsking();
        row.post(ASK, till, 0, asking);
        return asking;
    }

    public void giveUp(int till) throws IllegalArgumentException, IllegalStateException {
        checkTill(till);
        Till giver = tills[till];
        if (giver.asking == 0 || giver.gaveUp) {
            throw new IllegalStateException();
        }
        giver.endAsking();
        row.post(GIVEN, till, 0, giver.asking);
    }

    public int lease(int till) throws IllegalArgumentException {
        checkTill(till);
        return tills[till].validLease();
    }

    public int loaded(int till) throws IllegalArgumentException {
        checkTill(till);
        return tills[till].bookCount;
    }

    public void restart(int who) throws IllegalArgumentException {
        if (!isTillOrDesk(who)) {
            throw new IllegalArgumentException();
        }
        if (who == DESK) {
            desk.forgetAndWait();
        } else {
            tills[who].endAsking();
        }
    }

    // ---- letters ----

    public void deliver(int i) throws IndexOutOfBoundsException {
        checkLetter(i);
        int kind = row.kinds[i];
        int till = row.tills[i];
        int book = row.books[i];
        int asking = row.askings[i];
        // Out of the row first, so that an answer has room.
        row.takeOut(i);
        if (kind == BOOK) {
            tills[till].takeBook(book);
        } else if (kind == GRANT) {
            tills[till].takeGrant(asking, book);
        } else {
            bringToDesk(kind, till, book, asking);
        }
    }

    public void lose(int i) throws IndexOutOfBoundsException {
        checkLetter(i);
        row.takeOut(i);
    }

    public void twin(int i) throws IndexOutOfBoundsException, IllegalStateException {
        checkLetter(i);
        if (row.isFull()) {
            throw new IllegalStateException();
        }
        row.post(row.kinds[i], row.tills[i], row.books[i], row.askings[i]);
    }

    public int letter(int i, int what) throws IndexOutOfBoundsException, IllegalArgumentException {
        checkLetter(i);
        switch (what) {
            case 0:
                return row.kinds[i];
            case 1:
                return row.tills[i];
            case 2:
                return row.books[i];
            case 3:
                return row.askings[i];
            default:
                throw new IllegalArgumentException();
        }
    }

    public int letters() {
        return row.count;
    }

    // ---- baskets ----

    public int open(int till) throws IllegalArgumentException, IllegalStateException {
        checkTill(till);
        int leased = tills[till].validLease();
        if (leased == 0 || tills[till].openBaskets >= MAX_OPEN || basketCount >= MAX_BASKETS) {
            throw new IllegalStateException();
        }
        int number = basketCount;
        basketCount++;
        baskets[number].begin(till, leased);
        tills[till].openBaskets++;
        return number;
    }

    public int scan(int basket, int a, int sign)
            throws NoSuchElementException, IllegalArgumentException, IllegalStateException {
        checkOpenBasket(basket);
        if (!isArticle(a) || (sign != 1 && sign != -1) || !sells(baskets[basket].bookNumber, a)) {
            throw new IllegalArgumentException();
        }
        int pieces = baskets[basket].pieces[a] + sign;
        if (pieces < 0 || pieces > MAX_PIECES) {
            throw new IllegalStateException();
        }
        baskets[basket].pieces[a] = pieces;
        return pieces;
    }

    public long pay(int basket) throws NoSuchElementException {
        checkOpenBasket(basket);
        Basket paid = baskets[basket];
        paid.isOpen = false;
        tills[paid.till].openBaskets--;
        PriceList list = books[paid.bookNumber - 1];
        long sum = 0;
        for (int a = 0; a < ARTICLES; a++) {
            sum += list.leastFor(a, paid.pieces[a], leastRow);
        }
        return sum;
    }

    public int book(int basket) throws NoSuchElementException {
        if (!isBasket(basket)) {
            throw new NoSuchElementException();
        }
        return baskets[basket].bookNumber;
    }

    // ---- what calls look at first ----

    private static boolean isArticle(int a) {
        return a >= 0 && a < ARTICLES;
    }

    private static boolean isSlot(int slot) {
        return slot >= 0 && slot < SLOTS;
    }

    private static boolean isBundleSize(int n) {
        return n == 0 || (n >= MIN_BUNDLE && n <= MAX_BUNDLE);
    }

    private static boolean isAmount(int cents) {
        return cents >= 0 && cents <= MAX_CENTS;
    }

    private static boolean isTillOrDesk(int who) {
        return who >= 0 && who <= DESK;
    }

    private boolean isBook(int number) {
        return number >= 1 && number <= published;
    }

    private boolean isBasket(int basket) {
        return basket >= 0 && basket < basketCount;
    }

    private boolean sells(int number, int a) {
        return books[number - 1].prices[a] != 0;
    }

    private static void checkTill(int till) {
        if (till < 0 || till >= TILLS) {
            throw new IllegalArgumentException();
        }
    }

    private void checkLetter(int i) {
        if (i < 0 || i >= row.count) {
            throw new IndexOutOfBoundsException();
        }
    }

    private void checkOpenBasket(int basket) {
        if (!isBasket(basket) || !baskets[basket].isOpen) {
            throw new NoSuchElementException();
        }
    }

    private void bringToDesk(int kind, int till, int book, int asking) {
        if (kind == ASK) {
            int granted = desk.grant(till, asking);
            if (granted != 0) {
                row.post(GRANT, till, granted, asking);
            }
        } else if (kind == READY) {
            desk.notes[till].noteReady(book);
        } else {
            desk.notes[till].noteGiven(asking);
        }
        desk.lookAtChange();
    }

    /** The draft, or a book: prices and bundles of all articles. */
    private static final class PriceList {
        final int[] prices;
        // The bundles of article a stand at a * SLOTS + slot; size 0 means none.
        final int[] sizes;
        final int[] costs;

        PriceList() {
            prices = new int[ARTICLES];
            sizes = new int[ARTICLES * SLOTS];
            costs = new int[ARTICLES * SLOTS];
        }

        void copyFrom(PriceList other) {
            System.arraycopy(other.prices, 0, prices, 0, ARTICLES);
            System.arraycopy(other.sizes, 0, sizes, 0, ARTICLES * SLOTS);
            System.arraycopy(other.costs, 0, costs, 0, ARTICLES * SLOTS);
        }

        /** The least for just so many pieces (0 .. MAX_PIECES); least is a row to work in. */
        long leastFor(int a, int pieces, long[] least) {
            least[0] = 0;
            for (int k = 1; k <= pieces; k++) {
                least[k] = least[k - 1] + prices[a];
                for (int at = a * SLOTS; at < (a + 1) * SLOTS; at++) {
                    if (sizes[at] != 0 && sizes[at] <= k) {
                        least[k] = Math.min(least[k], least[k - sizes[at]] + costs[at]);
                    }
                }
            }
            return least[pieces];
        }
    }

    private static final class Clock {
        int hundredths;
        int perTick;

        Clock() {
            perTick = 100;
        }

        void go(int ticks) {
            hundredths += ticks * perTick;
        }

        int shown() {
            return hundredths / 100;
        }
    }

    private static final class Till {
        final Clock clock;
        // A till takes books only in their order, so the count is also the greatest that it has.
        int bookCount;
        int readyFor;
        int asking;
        int askedAt;
        boolean gaveUp;
        int leasedBook;
        int openBaskets;

        Till() {
            clock = new Clock();
        }

        void takeBook(int number) {
            if (number == bookCount + 1) {
                bookCount = number;
            }
        }

        int beginAsking() {
            asking++;
            askedAt = clock.shown();
            gaveUp = false;
            leasedBook = 0;
            return asking;
        }

        void endAsking() {
            gaveUp = true;
            leasedBook = 0;
        }

        void takeGrant(int granted, int number) {
            if (granted == asking && !gaveUp) {
                leasedBook = number;
            }
        }

        int validLease() {
            boolean inTime = clock.shown() - askedAt < LEASE_TIME;
            boolean hasBook = leasedBook <= bookCount;
            boolean readyForGreater = readyFor > leasedBook;
            return inTime && hasBook && !readyForGreater ? leasedBook : 0;
        }
    }

    /** What the desk knows of one till. */
    private static final class Note {
        int knownReady;
        int lastAsking;
        int grantedBook;
        int grantedAt;
        boolean holds;

        void forget() {
            knownReady = 0;
            lastAsking = 0;
            grantedBook = 0;
            grantedAt = 0;
            holds = false;
        }

        void noteReady(int number) {
            knownReady = Math.max(knownReady, number);
        }

        void noteGrant(int asking, int number, int now) {
            lastAsking = asking;
            grantedBook = number;
            grantedAt = now;
            holds = true;
        }

        // The asking stays noted, so that late letters of earlier ones are still known as such.
        void noteGiven(int asking) {
            if (asking == lastAsking) {
                holds = false;
            }
        }

        boolean allows(int change, int now) {
            return knownReady >= change || !holds || grantedBook == change || now - grantedAt >= SAFE_TIME;
        }
    }

    private static final class Desk {
        final Clock clock;
        final Note[] notes;
        int activeBook;
        // The book of the change under way, 0 if there is none.
        int changeTo;
        int waitsUntil;

        Desk() {
            clock = new Clock();
            notes = new Note[TILLS];
            for (int t = 0; t < TILLS; t++) {
                notes[t] = new Note();
            }
        }

        boolean waits() {
            return clock.shown() < waitsUntil;
        }

        void forgetAndWait() {
            for (int t = 0; t < TILLS; t++) {
                notes[t].forget();
            }
            waitsUntil = clock.shown() + SAFE_TIME;
        }

        /** The book that is granted for an asking, 0 if it is not answered. */
        int grant(int till, int asking) {
            Note note = notes[till];
            if (waits() || asking < note.lastAsking) {
                return 0;
            }
            int number = bookFor(note);
            if (number != 0) {
                note.noteGrant(asking, number, clock.shown());
            }
            return number;
        }

        private int bookFor(Note note) {
            if (changeTo == 0) {
                return activeBook;
            }
            return note.knownReady >= changeTo ? changeTo : 0;
        }

        void lookAtChange() {
            if (changeTo == 0 || waits()) {
                return;
            }
            for (int t = 0; t < TILLS; t++) {
                if (!notes[t].allows(changeTo, clock.shown())) {
                    return;
                }
            }
            activeBook = changeTo;
            changeTo = 0;
        }
    }

    /** Letters, the oldest first: number i is described by the i-th entry of each array. */
    private static final class LetterRow {
        final int[] kinds;
        final int[] tills;
        final int[] books;
        final int[] askings;
        int count;

        LetterRow() {
            kinds = new int[MAX_LETTERS];
            tills = new int[MAX_LETTERS];
            books = new int[MAX_LETTERS];
            askings = new int[MAX_LETTERS];
        }

        boolean isFull() {
            return count >= MAX_LETTERS;
        }

        void post(int kind, int till, int book, int asking) {
            if (isFull()) {
                return;
            }
            kinds[count] = kind;
            tills[count] = till;
            books[count] = book;
            askings[count] = asking;
            count++;
        }

        void takeOut(int i) {
            int behind = count - i - 1;
            System.arraycopy(kinds, i + 1, kinds, i, behind);
            System.arraycopy(tills, i + 1, tills, i, behind);
            System.arraycopy(books, i + 1, books, i, behind);
            System.arraycopy(askings, i + 1, askings, i, behind);
            count--;
        }
    }

    private static final class Basket {
        int till;
        int bookNumber;
        boolean isOpen;
        final int[] pieces;

        Basket() {
            pieces = new int[ARTICLES];
        }

        void begin(int openedAt, int number) {
            till = openedAt;
            bookNumber = number;
            isOpen = true;
        }
    }
}
