/** Promises 7 (tick) and 8 (rate). */
public final class ClockTest {
    public static void main(String[] args) {
        ticksAddUp();
        tickRefuses();
        rateIsFromNowOn();
        tillsHaveClocksOfTheirOwn();
        rateRefuses();
        Check.end();
    }

    private static void ticksAddUp() {
        PriceHouse x = new PriceHouse();
        Check.same("tick", x.tick(1), 1);
        Check.same("tick", x.tick(500), 501);
        Check.same("tick", x.tick(59), 560);
    }

    private static void tickRefuses() {
        PriceHouse x = new PriceHouse();
        for (int n : new int[] {0, -1, 501, Integer.MIN_VALUE, Integer.MAX_VALUE}) {
            Check.refusesArgument("tick " + n, () -> x.tick(n));
        }
        Check.same("refused ticks do not count", x.tick(1), 1);
    }

    private static void rateIsFromNowOn() {
        PriceHouse x = new PriceHouse();
        x.tick(10);
        x.rate(4, 101);
        Check.same("99 ticks of 101", x.tick(99), 109);
        Check.same("100 ticks of 101", x.tick(1), 111);
        x.rate(4, 99);
        Check.same("one tick of 99", x.tick(1), 111);
        Check.same("99 ticks of 99", x.tick(99), 210);
        x.rate(4, 100);
        Check.same("one tick of 100", x.tick(1), 211);
        x.rate(0, 101);
        Check.same("a till's rate is not the desk's", x.tick(200), 411);
    }

    private static void tillsHaveClocksOfTheirOwn() {
        for (int slow = 0; slow < 4; slow++) {
            PriceHouse x = Shop.trading(1);
            x.rate(slow, 99);
            for (int t = 0; t < 4; t++) {
                x.ask(t);
            }
            Shop.deliverAll(x);
            x.tick(60);
            for (int t = 0; t < 4; t++) {
                Check.same("till " + t + " with till " + slow + " slow", x.lease(t), t == slow ? 1 : 0);
            }
            x.tick(1);
            Check.same("the slow till a tick later", x.lease(slow), 0);
        }
        PriceHouse y = Shop.trading(1);
        y.rate(2, 101);
        y.tick(99);
        Shop.lend(y, 2);
        Check.same("asked at 99.99", y.tick(1), 100);
        y.tick(57);
        Check.same("59 more shown", y.lease(2), 1);
        y.tick(1);
        Check.same("60 more shown (and 5959 hundredths more)", y.lease(2), 0);
    }

    private static void rateRefuses() {
        PriceHouse x = new PriceHouse();
        for (int who : new int[] {-1, 5, Integer.MIN_VALUE, Integer.MAX_VALUE}) {
            Check.refusesArgument("rate of " + who, () -> x.rate(who, 100));
        }
        for (int who = 0; who <= 4; who++) {
            int clock = who;
            for (int percent : new int[] {98, 102, 0, -100, Integer.MIN_VALUE, Integer.MAX_VALUE}) {
                Check.refusesArgument("rate " + percent, () -> x.rate(clock, percent));
            }
        }
        Check.same("refused rates change nothing", x.tick(100), 100);
    }
}
