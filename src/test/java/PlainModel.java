import java.util.ArrayList;
import java.util.HashMap;
import java.util.List;
import java.util.Map;
import java.util.NoSuchElementException;

/**
 * The document written a second time, for comparison: it keeps what has happened and looks through
 * that anew for each answer, so that it shares neither state nor shortcuts with the program.
 */
final class PlainModel {
    private enum Kind { BOOK, ASK, GRANT, READY, GIVEN }

    private record Letter(Kind kind, int till, int book, int asking) { }

    private record Bundle(int n, int cents) { }

    private record Basket(int till, int book, int[] pieces) { }

    /** What happened at a till (ASK: clock; GRANT: book; GIVEN; READY: book; BOOK: book). */
    private record Happening(Kind kind, int number) { }

    /** What came to the desk and was noted. */
    private record Noted(Kind kind, int till, int book, int asking, int clock) { }

    private Map<Integer, Integer> draftPrices = new HashMap<>();
    private Map<Integer, Bundle> draftBundles = new HashMap<>();
    private final List<Map<Integer, Integer>> prices = new ArrayList<>();
    private final List<Map<Integer, Bundle>> bundles = new ArrayList<>();
    private final int[] hundredths = new int[5];
    private final int[] rates = {100, 100, 100, 100, 100};
    private final List<Letter> row = new ArrayList<>();
    private final List<List<Happening>> tills = new ArrayList<>();
    private List<Noted> desk = new ArrayList<>();
    private int active = 0;
    private int change = 0;
    private Integer restartedAt = null;
    private final List<Basket> baskets = new ArrayList<>();
    private final List<Basket> paid = new ArrayList<>();

    PlainModel() {
        for (int t = 0; t < 4; t++) {
            tills.add(new ArrayList<>());
        }
    }

    private static void argument(boolean right) {
        if (!right) {
            throw new IllegalArgumentException();
        }
    }

    private static void state(boolean right) {
        if (!right) {
            throw new IllegalStateException();
        }
    }

    private void index(int i) {
        if (i < 0 || i >= row.size()) {
            throw new IndexOutOfBoundsException();
        }
    }

    private void element(boolean right) {
        if (!right) {
            throw new NoSuchElementException();
        }
    }

    private static boolean in(int least, int x, int most) {
        return least <= x && x <= most;
    }

    void article(int a, int cents) {
        argument(in(0, a, 7) && in(0, cents, 10_000_000));
        draftPrices.put(a, cents);
    }

    void bundle(int a, int slot, int n, int cents) {
        argument(in(0, a, 7) && in(0, slot, 1) && (n == 0 || in(2, n, 12)) && in(0, cents, 10_000_000));
        if (n == 0) {
            draftBundles.remove(2 * a + slot);
        } else {
            draftBundles.put(2 * a + slot, new Bundle(n, cents));
        }
    }

    int publish() {
        state(prices.size() < 9);
        prices.add(new HashMap<>(draftPrices));
        bundles.add(new HashMap<>(draftBundles));
        for (int t = 0; t < 4; t++) {
            send(new Letter(Kind.BOOK, t, prices.size(), 0));
        }
        return prices.size();
    }

    private void send(Letter letter) {
        if (row.size() < 40) {
            row.add(letter);
        }
    }

    void activate(int book) {
        argument(in(1, book, prices.size()));
        state(book > active && book > change);
        change = book;
        look();
    }

    int active() {
        return active;
    }

    int tick(int n) {
        argument(in(1, n, 500));
        for (int k = 0; k < n; k++) {
            for (int c = 0; c < 5; c++) {
                hundredths[c] += rates[c];
            }
            look();
        }
        return clock(4);
    }

    private int clock(int who) {
        return hundredths[who] / 100;
    }

    void rate(int who, int percent) {
        argument(in(0, who, 4) && in(99, percent, 101));
        rates[who] = percent;
    }

    int fetch(int till) {
        int missing = prices.size() - loaded(till);
        for (int b = loaded(till) + 1; b <= prices.size(); b++) {
            send(new Letter(Kind.BOOK, till, b, 0));
        }
        return missing;
    }

    int ready(int till) {
        int book = loaded(till);
        state(book > 0);
        tills.get(till).add(new Happening(Kind.READY, book));
        send(new Letter(Kind.READY, till, book, 0));
        return book;
    }

    int ask(int till) {
        argument(in(0, till, 3));
        tills.get(till).add(new Happening(Kind.ASK, clock(till)));
        send(new Letter(Kind.ASK, till, 0, count(till, Kind.ASK)));
        return count(till, Kind.ASK);
    }

    private int count(int till, Kind kind) {
        return (int) tills.get(till).stream().filter(h -> h.kind() == kind).count();
    }

    /** The latest of GRANT, GIVEN and ASK at a till, null if there is none. */
    private Happening stand(int till) {
        Happening last = null;
        for (Happening h : tills.get(till)) {
            if (h.kind() == Kind.ASK || h.kind() == Kind.GRANT || h.kind() == Kind.GIVEN) {
                last = h;
            }
        }
        return last;
    }

    void giveUp(int till) {
        argument(in(0, till, 3));
        state(count(till, Kind.ASK) > 0 && stand(till).kind() != Kind.GIVEN);
        tills.get(till).add(new Happening(Kind.GIVEN, 0));
        send(new Letter(Kind.GIVEN, till, 0, count(till, Kind.ASK)));
    }

    int lease(int till) {
        argument(in(0, till, 3));
        Happening stand = stand(till);
        if (stand == null || stand.kind() != Kind.GRANT) {
            return 0;
        }
        int askedAt = 0;
        int ready = 0;
        for (Happening h : tills.get(till)) {
            askedAt = h.kind() == Kind.ASK ? h.number() : askedAt;
            ready = h.kind() == Kind.READY ? Math.max(ready, h.number()) : ready;
        }
        boolean valid = clock(till) < askedAt + 60 && loaded(till) >= stand.number() && ready <= stand.number();
        return valid ? stand.number() : 0;
    }

    int loaded(int till) {
        argument(in(0, till, 3));
        return count(till, Kind.BOOK);
    }

    void deliver(int i) {
        index(i);
        Letter letter = row.remove(i);
        if (letter.kind() == Kind.BOOK) {
            if (loaded(letter.till()) == letter.book() - 1) {
                tills.get(letter.till()).add(new Happening(Kind.BOOK, letter.book()));
            }
        } else if (letter.kind() == Kind.GRANT) {
            boolean latest = count(letter.till(), Kind.ASK) == letter.asking();
            if (latest && stand(letter.till()).kind() != Kind.GIVEN) {
                tills.get(letter.till()).add(new Happening(Kind.GRANT, letter.book()));
            }
        } else {
            atDesk(letter);
            look();
        }
    }

    private void atDesk(Letter letter) {
        if (letter.kind() != Kind.ASK) {
            desk.add(new Noted(letter.kind(), letter.till(), letter.book(), letter.asking(), clock(4)));
            return;
        }
        Noted last = lastGrant(letter.till());
        if (waits() || (last != null && letter.asking() < last.asking())) {
            return;
        }
        int book = change == 0 ? active : knownReady(letter.till()) >= change ? change : 0;
        if (book > 0) {
            desk.add(new Noted(Kind.GRANT, letter.till(), book, letter.asking(), clock(4)));
            send(new Letter(Kind.GRANT, letter.till(), book, letter.asking()));
        }
    }

    private boolean waits() {
        return restartedAt != null && clock(4) - restartedAt < 63;
    }

    private Noted lastGrant(int till) {
        Noted last = null;
        for (Noted n : desk) {
            last = n.kind() == Kind.GRANT && n.till() == till ? n : last;
        }
        return last;
    }

    private int knownReady(int till) {
        int ready = 0;
        for (Noted n : desk) {
            ready = n.kind() == Kind.READY && n.till() == till ? Math.max(ready, n.book()) : ready;
        }
        return ready;
    }

    private boolean holds(int till) {
        Noted grant = lastGrant(till);
        if (grant == null) {
            return false;
        }
        for (Noted n : desk.subList(desk.lastIndexOf(grant), desk.size())) {
            if (n.kind() == Kind.GIVEN && n.till() == till && n.asking() == grant.asking()) {
                return false;
            }
        }
        return true;
    }

    private void look() {
        if (change == 0 || waits()) {
            return;
        }
        for (int t = 0; t < 4; t++) {
            if (knownReady(t) < change && holds(t)) {
                Noted grant = lastGrant(t);
                if (grant.book() != change && clock(4) < grant.clock() + 63) {
                    return;
                }
            }
        }
        active = change;
        change = 0;
    }

    void lose(int i) {
        index(i);
        row.remove(i);
    }

    void twin(int i) {
        index(i);
        state(row.size() < 40);
        row.add(row.get(i));
    }

    int letter(int i, int what) {
        index(i);
        argument(in(0, what, 3));
        Letter l = row.get(i);
        return new int[] {l.kind().ordinal(), l.till(), l.book(), l.asking()}[what];
    }

    int letters() {
        return row.size();
    }

    int open(int till) {
        int book = lease(till);
        long there = baskets.stream().filter(b -> b.till() == till && !paid.contains(b)).count();
        state(book > 0 && there < 3 && baskets.size() < 40);
        baskets.add(new Basket(till, book, new int[8]));
        return baskets.size() - 1;
    }

    private Basket openBasket(int basket) {
        element(in(0, basket, baskets.size() - 1) && !paid.contains(baskets.get(basket)));
        return baskets.get(basket);
    }

    int scan(int basket, int a, int sign) {
        Basket b = openBasket(basket);
        argument(in(0, a, 7) && (sign == 1 || sign == -1) && price(b.book(), a) > 0);
        state(in(0, b.pieces()[a] + sign, 30));
        b.pieces()[a] += sign;
        return b.pieces()[a];
    }

    long pay(int basket) {
        Basket b = openBasket(basket);
        paid.add(b);
        long sum = 0;
        for (int a = 0; a < 8; a++) {
            sum += least(b, a);
        }
        return sum;
    }

    /** By trying all counts of both bundles; a bundle that is not there is one of 31 pieces. */
    private long least(Basket b, int a) {
        Bundle none = new Bundle(31, 0);
        Bundle first = bundles.get(b.book() - 1).getOrDefault(2 * a, none);
        Bundle second = bundles.get(b.book() - 1).getOrDefault(2 * a + 1, none);
        long least = Long.MAX_VALUE;
        for (int i = 0; i * first.n() <= b.pieces()[a]; i++) {
            for (int j = 0; i * first.n() + j * second.n() <= b.pieces()[a]; j++) {
                long single = b.pieces()[a] - i * first.n() - j * second.n();
                long cost = (long) i * first.cents() + (long) j * second.cents() + single * price(b.book(), a);
                least = Math.min(least, cost);
            }
        }
        return least;
    }

    int book(int basket) {
        element(in(0, basket, baskets.size() - 1));
        return baskets.get(basket).book();
    }

    int price(int book, int a) {
        argument(in(1, book, prices.size()) && in(0, a, 7));
        return prices.get(book - 1).getOrDefault(a, 0);
    }

    void restart(int who) {
        argument(in(0, who, 4));
        if (who < 4) {
            tills.get(who).add(new Happening(Kind.GIVEN, 0));
        } else {
            desk = new ArrayList<>();
            restartedAt = clock(4);
        }
    }
}
