/** Promises 11 to 18: hours sold, bought, swapped, given up, things left and fetched, quarrels quieted, dusting. */
final class ActsTest {
    private static final Probe PROBE = new Probe("ActsTest");
    private static final String HOUSE = "family purse 30 dust 5 stove 2 hours 0 to 5;family purse 25 dust 3 stove 4 hours 6 to 7;"
        + "family purse 9 dust 0 stove 0;thing 0 bulk 3;thing 1 bulk 4 left;thing 0 bulk 9 left";
    private static final Class<IndexOutOfBoundsException> INDEX = IndexOutOfBoundsException.class;
    private static final Class<IllegalArgumentException> ARGUMENT = IllegalArgumentException.class;
    private static final Class<IllegalStateException> STATE = IllegalStateException.class;

    public static void main(String[] args) {
        selling();
        sellingToTheBrim();
        buying();
        swapping();
        freeing();
        leaving();
        quieting();
        dusting();
        PROBE.finish();
    }

    private static void selling() {
        ClockShares x = Probe.house(HOUSE);
        PROBE.fails("sell(24, 0)", INDEX, () -> x.sell(24, 0));
        PROBE.fails("sell(-1, 0)", INDEX, () -> x.sell(-1, 0));
        PROBE.fails("sell(0, 3)", INDEX, () -> x.sell(0, 3));
        PROBE.fails("sell(0, -1)", INDEX, () -> x.sell(0, -1));
        PROBE.fails("sell to itself", ARGUMENT, () -> x.sell(0, 0));
        PROBE.fails("sell what nobody has", STATE, () -> x.sell(8, 0));
        PROBE.fails("sell to one with less", STATE, () -> x.sell(0, 2));
        PROBE.is("no act", x.count(17), 0);
        PROBE.is("sell", x.sell(0, 1), 40);
        PROBE.is("seller's purse", x.family(0, 0), 40);
        PROBE.is("buyer's purse", x.family(1, 0), 15);
        PROBE.is("who has it", x.holds(0), 1);
        PROBE.is("one act", x.count(17), 1);
        PROBE.is("sell", x.sell(1, 1), 50);
        PROBE.fails("sell to one with less by now", STATE, () -> x.sell(2, 1));
        ClockShares y = Probe.house(HOUSE, "price 9");
        PROBE.is("sell for the last of a purse", y.sell(0, 2), 39);
        PROBE.is("an empty purse", y.family(2, 0), 0);
        ClockShares z = Probe.house(HOUSE, "price 0;family purse 0 dust 0 stove 0");
        PROBE.is("sell for nothing", z.sell(0, 3), 30);
        PROBE.fails("an empty purse is not to blame first", ARGUMENT, () -> z.sell(0, 3));
    }

    /** Six purses of 999 come to less than 9999 together, so that sales alone never pass it. */
    private static void sellingToTheBrim() {
        ClockShares x = Probe.house("family purse 999 dust 0 stove 0 hours 0 to 23;price 99;family purse 999 dust 0 stove 0");
        int purse = 999;
        for (int hour = 0; hour < 10; hour++) {
            purse += 99;
            PROBE.is("sell", x.sell(hour, 1), purse);
        }
        PROBE.is("what is left", x.family(1, 0), 9);
        PROBE.fails("purse is less", STATE, () -> x.sell(10, 1));
    }

    private static void buying() {
        ClockShares x = Probe.house(HOUSE);
        PROBE.fails("buy(24, 0)", INDEX, () -> x.buy(24, 0));
        PROBE.fails("buy(-1, 0)", INDEX, () -> x.buy(-1, 0));
        PROBE.fails("buy(8, 3)", INDEX, () -> x.buy(8, 3));
        PROBE.fails("buy(8, -1)", INDEX, () -> x.buy(8, -1));
        PROBE.fails("buy what another one has", STATE, () -> x.buy(0, 1));
        PROBE.fails("buy one's own", STATE, () -> x.buy(0, 0));
        PROBE.fails("buy with less", STATE, () -> x.buy(8, 2));
        PROBE.is("buy", x.buy(8, 0), 20);
        PROBE.is("buy", x.buy(9, 0), 10);
        PROBE.is("buy for the last", x.buy(10, 0), 0);
        PROBE.is("hours", x.family(0, 4), 0b11100111111);
        PROBE.fails("buy with nothing", STATE, () -> x.buy(11, 0));
        PROBE.is("three acts", x.count(17), 3);
    }

    private static void swapping() {
        ClockShares x = Probe.house(HOUSE);
        PROBE.fails("swap(24, 0)", INDEX, () -> x.swap(24, 0));
        PROBE.fails("swap(0, 24)", INDEX, () -> x.swap(0, 24));
        PROBE.fails("swap(-1, -1)", INDEX, () -> x.swap(-1, -1));
        PROBE.fails("swap one", ARGUMENT, () -> x.swap(0, 0));
        PROBE.fails("swap one of nobody", ARGUMENT, () -> x.swap(9, 9));
        PROBE.fails("swap with nobody", STATE, () -> x.swap(0, 8));
        PROBE.fails("swap with nobody", STATE, () -> x.swap(8, 0));
        PROBE.fails("swap of nobody", STATE, () -> x.swap(8, 9));
        PROBE.fails("swap with itself", STATE, () -> x.swap(0, 1));
        PROBE.is("swap", x.swap(0, 7), 1);
        PROBE.is("first", x.holds(0), 1);
        PROBE.is("second", x.holds(7), 0);
        PROBE.is("one act", x.count(17), 1);
        PROBE.is("swap back", x.swap(0, 7), 0);
    }

    private static void freeing() {
        ClockShares x = Probe.house(HOUSE);
        PROBE.fails("free(24)", INDEX, () -> x.free(24));
        PROBE.fails("free(-1)", INDEX, () -> x.free(-1));
        PROBE.fails("free what nobody has", STATE, () -> x.free(8));
        PROBE.is("free", x.free(6), 1);
        PROBE.is("free", x.holds(6), -1);
        PROBE.fails("free again", STATE, () -> x.free(6));
        PROBE.is("one act", x.count(17), 1);
        PROBE.is("nothing is paid", x.family(1, 0), 25);
    }

    private static void leaving() {
        ClockShares x = Probe.house(HOUSE);
        PROBE.fails("leave(3)", INDEX, () -> x.leave(3));
        PROBE.fails("leave(-1)", INDEX, () -> x.leave(-1));
        PROBE.fails("fetch(3)", INDEX, () -> x.fetch(3));
        PROBE.fails("fetch(-1)", INDEX, () -> x.fetch(-1));
        PROBE.fails("leave what is left", STATE, () -> x.leave(2));
        PROBE.fails("fetch what is not left", STATE, () -> x.fetch(0));
        PROBE.fails("fetch another one's", STATE, () -> x.fetch(1));
        PROBE.is("leave", x.leave(0), 16);
        PROBE.is("left", x.count(14), 0b111);
        PROBE.is("fetch", x.fetch(2), 7);
        PROBE.is("left", x.count(14), 0b011);
        PROBE.is("two acts", x.count(17), 2);
        x.free(0);
        PROBE.fails("leave with nobody in", STATE, () -> x.leave(2));
        PROBE.fails("fetch with nobody in", STATE, () -> x.fetch(0));
        Probe.feed(x, "hour 6");
        x.deed();
        PROBE.is("fetch by the other one", x.fetch(1), 3);
        PROBE.is("leave by the other one", x.leave(1), 7);
        PROBE.fails("leave of the one that is out", STATE, () -> x.leave(2));
    }

    private static void quieting() {
        ClockShares x = Probe.house("family purse 5 dust 0 stove 0 hours 0 to 3;family purse 2 dust 0 stove 0 hours 4 to 4;guests 100");
        PROBE.fails("no quarrel", STATE, x::quiet);
        x.hours(3);
        PROBE.is("quarrel", x.count(8), 3);
        PROBE.is("quiet", x.quiet(), 2);
        PROBE.is("quarrel is 0", x.count(8), 0);
        PROBE.is("of whom it was stays told", x.count(9), 0);
        x.hours(1);
        PROBE.is("another one is in", x.count(15), 1);
        PROBE.is("quiet by the one in", x.quiet(), 1);
        PROBE.is("the other purse", x.family(0, 0), 2);
        x.hours(1);
        PROBE.is("nobody is in", x.count(15), -1);
        PROBE.is("quarrel", x.count(8), 1);
        PROBE.fails("nobody is in", STATE, x::quiet);
        x.hours(22);
        PROBE.is("hour 3 of the next day", x.count(4), 3);
        PROBE.is("quarrel", x.count(8), 4);
        PROBE.fails("purse is less", STATE, x::quiet);
    }

    private static void dusting() {
        ClockShares x = Probe.house(HOUSE);
        x.hours(2);
        PROBE.is("dust", x.dust(), 10);
        PROBE.is("dirt", x.count(7), 0);
        PROBE.is("dust again", x.dust(), 0);
        PROBE.is("each is an act", x.count(17), 3);
    }
}
