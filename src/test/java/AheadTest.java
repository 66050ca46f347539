import java.util.NoSuchElementException;

/** Promises 35 to 38, 41 and 42: hours ahead, trials and spans, of which nothing stays. */
final class AheadTest {
    private static final Probe PROBE = new Probe("AheadTest");
    private static final String HOUSE = "family purse 30 dust 2 stove 5 hours 0 to 3;family purse 9 dust 1 stove 0 hours 4 to 5;"
        + "thing 0 bulk 5 left;thing 1 bulk 2 left;thing 0 bulk 6 left;guests 60;cold 2";

    public static void main(String[] args) {
        ahead();
        withoutVisitors();
        dusty();
        warmest();
        ruin();
        trial();
        span();
        PROBE.finish();
    }

    private static void ahead() {
        ClockShares x = Probe.house(HOUSE);
        PROBE.is("heat now", x.ahead(0, 0), 10);
        PROBE.is("heat in 4", x.ahead(4, 0), 22);
        PROBE.is("dirt in 6", x.ahead(6, 1), 10);
        PROBE.is("in now", x.ahead(0, 2), 0);
        PROBE.is("in 4", x.ahead(4, 2), 1);
        PROBE.is("in 6", x.ahead(6, 2), -1);
        PROBE.is("in 200", x.ahead(200, 2), -1);
        PROBE.is("in 192", x.ahead(192, 2), 0);
        PROBE.fails("ahead(-1, 0)", IllegalArgumentException.class, () -> x.ahead(-1, 0));
        PROBE.fails("ahead(201, 3)", IllegalArgumentException.class, () -> x.ahead(201, 3));
        PROBE.fails("ahead(0, 3)", NoSuchElementException.class, () -> x.ahead(0, 3));
        PROBE.fails("ahead(200, -1)", NoSuchElementException.class, () -> x.ahead(200, -1));
        nothingStays(x);
    }

    private static void nothingStays(ClockShares x) {
        PROBE.is("hour stays", x.count(4), 0);
        PROBE.is("heat stays", x.count(6), 10);
        PROBE.is("dirt stays", x.count(7), 0);
        PROBE.is("quarrel stays", x.count(8), 0);
        PROBE.is("things stay", x.count(14), 7);
        PROBE.is("purse stays", x.family(0, 0), 30);
        PROBE.is("no row", x.count(16), 0);
        PROBE.is("no act", x.count(17), 0);
        int seed = x.seed(1);
        PROBE.is("seed stays", seed, 1);
    }

    /** Quarrels would make dust, but ahead nobody visits. */
    private static void withoutVisitors() {
        ClockShares x = Probe.house("family purse 30 dust 1 stove 5 hours 0 to 23;guests 100");
        Probe.law(x, "dust 9 if quarrel > 0");
        PROBE.is("dirt ahead", x.ahead(5, 1), 5);
        PROBE.is("dusty", x.dusty(50), 50);
        x.hours(5);
        PROBE.is("dirt in truth", x.count(7), 1 + 4 * 10);
        PROBE.is("quarrel as it is", x.ahead(1, 1), 51);
    }

    private static void dusty() {
        ClockShares x = Probe.house(HOUSE);
        PROBE.is("dusty(1)", x.dusty(1), 1);
        PROBE.is("dusty(9)", x.dusty(9), 5);
        PROBE.is("dusty(11)", x.dusty(11), 25);
        for (int dirt : new int[] {0, -1, 100, Integer.MIN_VALUE, Integer.MAX_VALUE}) {
            PROBE.fails("dusty(" + dirt + ")", IllegalArgumentException.class, () -> x.dusty(dirt));
        }
        nothingStays(x);
        x.hours(3);
        PROBE.is("by now", x.dusty(6), 0);
        ClockShares clean = Probe.house("family purse 1 dust 0 stove 0 hours 0 to 23");
        PROBE.is("never", clean.dusty(1), -1);
        ClockShares slow = Probe.house("family purse 1 dust 1 stove 0 hours 8 to 8;hour 9");
        PROBE.is("just within 200", slow.dusty(8), 192);
        PROBE.is("not within 200", slow.dusty(9), -1);
        ClockShares last = Probe.house("family purse 1 dust 1 stove 0 hours 8 to 8;hour 1");
        PROBE.is("in 200 just", last.dusty(9), 200);
        ClockShares late = Probe.house("family purse 1 dust 1 stove 0 hours 8 to 8;hour 0");
        PROBE.is("in 201 no more", late.dusty(9), -1);
    }

    private static void warmest() {
        ClockShares x = Probe.house(HOUSE);
        PROBE.is("warmest(200)", x.warmest(200), 4);
        PROBE.is("warmest(2)", x.warmest(2), 2);
        PROBE.is("warmest(1)", x.warmest(1), 1);
        for (int n : new int[] {0, -1, 201, Integer.MIN_VALUE, Integer.MAX_VALUE}) {
            PROBE.fails("warmest(" + n + ")", IllegalArgumentException.class, () -> x.warmest(n));
        }
        nothingStays(x);
        PROBE.is("now", Probe.house("").warmest(50), 0);
        PROBE.is("of several the first", Probe.house("family purse 1 dust 0 stove 1 hours 0 to 23").warmest(9), 0);
        PROBE.is("the last", Probe.house("family purse 1 dust 0 stove 1 hours 0 to 23;cold 0").warmest(89), 89);
        PROBE.is("no more than 99", Probe.house("family purse 1 dust 0 stove 1 hours 0 to 23;cold 0").warmest(200), 89);
    }

    private static void ruin() {
        ClockShares x = Probe.house("family purse 22 dust 0 stove 0 hours 0 to 3;family purse 9 dust 1 stove 0 hours 4 to 5;"
            + "thing 0 bulk 5 left;thing 1 bulk 2 left;thing 0 bulk 6 left;family purse 0 dust 0 stove 0");
        PROBE.is("as it goes", x.ruin(0), 4);
        PROBE.is("never", x.ruin(1), -1);
        PROBE.is("by now", x.ruin(2), 0);
        PROBE.fails("no family", IndexOutOfBoundsException.class, () -> x.ruin(3));
        PROBE.fails("no family", IndexOutOfBoundsException.class, () -> x.ruin(-1));
        PROBE.is("purse stays", x.family(0, 0), 22);
        PROBE.is("things stay", x.count(14), 7);
        PROBE.is("ahead nobody visits", dearQuarrels().ruin(0), -1);
    }

    /** A family of 25 that is fined 20 more, if there were visitors ahead of its going. */
    private static ClockShares dearQuarrels() {
        ClockShares x = Probe.house("family purse 25 dust 0 stove 0 hours 0 to 3;thing 0 bulk 4 left;guests 100");
        Probe.law(x, "fine 20 if quarrel > 3");
        return x;
    }

    private static void trial() {
        ClockShares x = Probe.house(HOUSE);
        PROBE.is("purses now", x.trial(0, true), 39);
        PROBE.is("purses in 3", x.trial(3, true), 39);
        PROBE.is("purses in 4", x.trial(4, true), 17);
        PROBE.is("purses in 6", x.trial(6, true), 13);
        PROBE.is("quarrel now", x.trial(0, false), 0);
        for (int n : new int[] {-1, 201, Integer.MIN_VALUE, Integer.MAX_VALUE}) {
            PROBE.fails("trial(" + n + ")", IllegalArgumentException.class, () -> x.trial(n, true));
            PROBE.fails("trial(" + n + ")", IllegalArgumentException.class, () -> x.trial(n, false));
        }
        nothingStays(x);
        PROBE.is("visitors make the fine dearer", dearQuarrels().trial(4, true), 0);
        PROBE.is("as in truth", dearQuarrels().hours(4), 1);
        for (int seed = -3; seed < 9; seed++) {
            ClockShares y = Probe.house(HOUSE);
            y.seed(seed * 77777);
            for (int n = 1; n <= 30; n++) {
                int quarrel = y.trial(n, false);
                int purses = y.trial(n, true);
                y.hours(n);
                PROBE.is("quarrel as in truth", quarrel, y.count(8));
                PROBE.is("purses as in truth", purses, y.family(0, 0) + y.family(1, 0));
                y.undo();
            }
        }
    }

    private static void span() {
        ClockShares x = Probe.house(HOUSE);
        for (int n : new int[] {-1, 201, Integer.MIN_VALUE, Integer.MAX_VALUE}) {
            PROBE.fails("span(" + n + ")", IllegalArgumentException.class, () -> x.span(n, true));
            PROBE.fails("span(" + n + ")", IllegalArgumentException.class, () -> x.span(n, false));
        }
        PROBE.is("span of none", x.span(0, true), 0);
        for (int n = 0; n <= 200; n += 7) {
            int least = 9;
            int most = 0;
            ClockShares y = Probe.house(HOUSE);
            for (int seed = 1; seed <= 6; seed++) {
                y.seed(seed);
                least = Math.min(least, y.trial(n, false));
                most = Math.max(most, y.trial(n, false));
            }
            PROBE.is("least of " + n, x.span(n, false), least);
            PROBE.is("greatest of " + n, x.span(n, true), most);
        }
        nothingStays(x);
        ClockShares z = Probe.house("family purse 1 dust 0 stove 0 hours 0 to 23;guests 100;fine 0;thing 0 bulk 1 left");
        z.hours(4);
        PROBE.is("from the quarrel now on", z.span(2, false), 6);
        PROBE.is("9 at most", z.span(200, true), 9);
    }
}
