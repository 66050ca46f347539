/** One house gone through by hand: the sentences of the document that no other test quotes. */
final class OneHouseTest {
    private static final Probe PROBE = new Probe("OneHouseTest");
    private static final String FAMILIES = "family purse 120 dust 2 stove 3 hours 22 to 3 wishes 0 to 6;"
        + "family purse 45 dust 4 stove 0 hours 4 to 9 wishes 8 to 12; family purse 7 dust 2 stove 9 hours 12 to 12 wishes 20 to 21;"
        + "hours 1 14 to 15; thing 0 bulk 4; thing 1 bulk 2 left; thing 0 bulk 1 left";
    private static final String SETTINGS = "cold 2; fine 3; price 15; guests 40; hour 3";
    private static final String LAW = "warm 5 if night and quarrel < 1; dust 1 if family > 0 or dirt + heat > 30; fine 2 if left > 3";

    public static void main(String[] args) {
        told();
        families();
        shares();
        deals();
        worth();
        lawAndThings();
        anHour();
        hoursAhead();
        acts();
        numbersThatAreNone();
        PROBE.finish();
    }

    private static ClockShares house() {
        ClockShares x = Probe.house(FAMILIES, SETTINGS);
        Probe.law(x, LAW);
        return x;
    }

    private static int bits(int from, int to) {
        return (1 << (to + 1)) - (1 << from);
    }

    private static void told() {
        ClockShares x = house();
        int[] due = {3, 3, 2, 3, 3, 0, 10, 0, 0, ClockShares.NONE, 2, 3, 15, 40, 6, 0, 0, 0};
        PROBE.of("`int count(int what)`: 0 FAMILIES, 1 THINGS, 2 texts of THE DEED,");
        PROBE.of(", 4 HOUR, 5 DAY, 6 HEAT, 7 DIRT, 8 QUARREL,");
        PROBE.of(", 10 COLD, 11 FINE, 12 PRICE, 13 GUESTS, 14 THINGS LEFT, as bits,");
        PROBE.of(", 16 rows of THE LOG, 17 acts that can be UNDONE.");
        for (int what = 0; what < due.length; what++) {
            PROBE.is("count(" + what + ")", x.count(what), due[what]);
        }
    }

    private static void families() {
        ClockShares x = house();
        int[][] due = {
            {120, 2, 3, bits(0, 6), bits(0, 3) | bits(22, 23), 6, 6, 4, 0},
            {45, 4, 0, bits(8, 12), bits(4, 9) | bits(14, 15), 8, 6, 2, 1},
            {7, 2, 9, bits(20, 21), bits(12, 12), 1, 1, 0, 9}};
        PROBE.of(", WISHES: HOURS, as bits.");
        PROBE.of("Of a FAMILY what 0 PURSE, 1 DUST, 2 STOVE,");
        PROBE.of(", 5 SHARE, 6 LONGEST, 7 GLAD,");
        for (int family = 0; family < due.length; family++) {
            for (int what = 0; what < due[family].length; what++) {
                PROBE.is("family(" + family + ", " + what + ")", x.family(family, what), due[family][what]);
            }
        }
    }

    private static void shares() {
        ClockShares x = house();
        PROBE.of("`int changes()`: CHANGES.");
        PROBE.is("changes", x.changes(), 7);
        PROBE.of("`int gaps()`: GAPS, as bits.");
        PROBE.is("gaps", x.gaps(), bits(10, 11) | bits(13, 13) | bits(16, 21));
        PROBE.of("MET of two FAMILIES:");
        PROBE.is("met(0, 1)", x.met(0, 1), bits(3, 3));
        PROBE.is("met(1, 2)", x.met(1, 2), 0);
        PROBE.of("`int lovers()`: LOVERS.");
        PROBE.is("lovers", x.lovers(), 0);
        x.buy(10, 0);
        PROBE.is("lovers, once they meet twice", x.lovers(), 1);
        PROBE.of("`int widows()`: WIDOWS, as bits.");
        PROBE.is("widows", x.widows(), 4);
        PROBE.of("`int cramped()`: CRAMPED.");
        PROBE.is("cramped", x.cramped(), 2);
        PROBE.of("COMMON: the DUST (0 to 9) that the most FAMILIES make");
        PROBE.is("common", x.common(), 2);
        PROBE.of(": FAMILIES that could have been IN in all of these, as bits;");
        Probe.feed(x, new byte[] {2, 2});
        PROBE.is("who of 2 and 2", x.who(false), 5);
        Probe.feed(x, new byte[] {2, 4, 2});
        PROBE.is("rows of 2, 4 and 2", x.who(true), 4);
    }

    private static void deals() {
        ClockShares x = house();
        PROBE.of("DEAL: if all 24 HOURS were dealt anew,");
        PROBE.of("`int deal()`: DEAL.");
        PROBE.is("deal", x.deal(), 12);
        PROBE.of("SWAP: two HOURS HELD by two FAMILIES");
        PROBE.is("trade", x.trade(), 24 * 4 + 12);
        PROBE.of("`int fewest()`: FEWEST.");
        PROBE.is("fewest", x.fewest(), 4);
        PROBE.of("`int corner(int family) throws IndexOutOfBoundsException`: CORNER.");
        PROBE.is("corner(0)", x.corner(0), 4);
        PROBE.is("corner(1)", x.corner(1), 3);
        PROBE.is("corner(2)", x.corner(2), 7);
        PROBE.of("LESSON of N HOURS");
        PROBE.is("lesson(4)", x.lesson(4), 0);
        PROBE.is("lesson(5)", x.lesson(5), ClockShares.NONE);
    }

    private static void worth() {
        ClockShares x = house();
        int[] due = {0, 18, 14, 33, 1, 19, 16, 35};
        PROBE.of("WORTH of some FAMILIES:");
        PROBE.of("`int worth(int families)`: WORTH of a set of FAMILIES.");
        for (int set = 0; set < due.length; set++) {
            PROBE.is("worth(" + set + ")", x.worth(set), due[set]);
        }
        PROBE.of(": of the sum as much as that is of WORTH of all,");
        PROBE.is("part(0, 100): 18.5 of 35", x.part(0, 100), 5285);
        PROBE.is("part(1, 100): 15 of 35", x.part(1, 100), 4285);
        PROBE.is("part(2, 100): 1.5 of 35", x.part(2, 100), 428);
        PROBE.of("BIDS of two FAMILIES for an HOUR:");
        PROBE.is("bids(0, 1, 8)", x.bids(0, 1, 8), 1 | 2 | 8);
        PROBE.is("bids(1, 0, 8)", x.bids(1, 0, 8), 1 | 4 | 8);
        PROBE.of("RICH: the FAMILY of the most PURSE and PRICE for each HOUR");
        PROBE.is("rich", x.rich(), 0);
    }

    private static void lawAndThings() {
        ClockShares x = house();
        PROBE.of("Of a FAMILY in an HOUR, all else as now, what 0 it WARMS, 1 it DUSTS by.");
        PROBE.is("0 warms at 3, by night", x.does(0, 3, 0), 8);
        PROBE.is("0 warms at 12", x.does(0, 12, 0), 3);
        PROBE.is("0 dusts at 3", x.does(0, 3, 1), 2);
        PROBE.is("1 dusts at 12", x.does(1, 12, 1), 5);
        PROBE.of("Of a THING what 0 its FAMILY, 1 BULK, 2 1 if LEFT, 3 what its FAMILY would be FINED by for it now.");
        int[][] due = {{0, 4, 0, 12}, {1, 2, 1, 6}, {0, 1, 1, 3}};
        for (int thing = 0; thing < due.length; thing++) {
            for (int what = 0; what < due[thing].length; what++) {
                PROBE.is("thing(" + thing + ", " + what + ")", x.thing(thing, what), due[thing][what]);
            }
        }
        PROBE.of("a THING of the one IN is left in the house, or fetched;");
        PROBE.is("leave(0)", x.leave(0), 7);
        PROBE.is("thing(1, 3), more is left", x.thing(1, 3), 8);
        PROBE.is("fetch(2)", x.fetch(2), 6);
    }

    /** The first draw is 16838: 38 of 100, so that there is a quarrel. */
    private static void anHour() {
        ClockShares x = house();
        x.leave(0);
        PROBE.of("AN HOUR goes by:");
        PROBE.is("trial(1, false)", x.trial(1, false), 1);
        PROBE.is("trial(1, true)", x.trial(1, true), 103 + 45 + 7);
        PROBE.is("hours(1)", x.hours(1), 2);
        PROBE.is("heat", x.count(6), 16);
        PROBE.is("dirt", x.count(7), 2);
        PROBE.is("quarrel", x.count(8), 1);
        PROBE.is("of whom", x.count(9), 0);
        PROBE.is("purse", x.family(0, 0), 103);
        int[][] rows = {{0, 4, 0, 1, 3}, {0, 4, 0, 1, 14}, {0, 3, 0, 0, 1}};
        for (int ago = 0; ago < rows.length; ago++) {
            for (int what = 0; what < rows[ago].length; what++) {
                PROBE.is("log(" + ago + ", " + what + ")", x.log(ago, what), rows[ago][what]);
            }
        }
        PROBE.is("led(0, false)", x.led(0, false), 3);
        PROBE.is("led(1, true)", x.led(1, true), ClockShares.NONE);
        PROBE.of("QUARREL is quieted: PURSE of the one IN then.");
        PROBE.is("quiet", x.quiet(), 44);
        PROBE.is("quarrel, quieted", x.count(8), 0);
        PROBE.of("; DIRT is dusted (0); HOURS.");
        PROBE.is("dust", x.dust(), 2);
        PROBE.is("dirt, dusted", x.count(7), 0);
        PROBE.is("acts: a thing left, an hour, quieted, dusted", x.count(17), 4);
    }

    private static void hoursAhead() {
        ClockShares x = house();
        x.leave(0);
        x.hours(1);
        x.quiet();
        x.dust();
        PROBE.of("AHEAD by N HOURS (0 to 200)");
        int[] heats = {16, 19, 22, 20, 18};
        for (int n = 0; n < heats.length; n++) {
            PROBE.is("ahead(" + n + ", 0)", x.ahead(n, 0), heats[n]);
            PROBE.is("ahead(" + n + ", 1)", x.ahead(n, 1), 5 * n);
            PROBE.is("ahead(" + n + ", 2)", x.ahead(n, 2), 1);
        }
        PROBE.of("`int warmest(int n) throws IllegalArgumentException`: WARMEST. IllegalArgumentException: N is none.");
        PROBE.is("warmest(4)", x.warmest(4), 2);
        PROBE.is("dusty(10)", x.dusty(10), 2);
        PROBE.is("dusty(11)", x.dusty(11), 3);
        PROBE.is("ruin(1), a thing of which is fined at 10", x.ruin(1), ClockShares.NONE);
    }

    private static void acts() {
        ClockShares x = house();
        PROBE.of("`void image()`: THE IMAGE is kept.");
        x.image();
        PROBE.of("an HOUR that nobody HOLDS is bought for PRICE;");
        PROBE.is("buy(10, 1)", x.buy(10, 1), 30);
        PROBE.is("holds(10)", x.holds(10), 1);
        PROBE.of("two HOURS of two FAMILIES are swapped;");
        PROBE.is("swap(4, 12)", x.swap(4, 12), 2);
        PROBE.is("holds(4)", x.holds(4), 2);
        PROBE.is("holds(12)", x.holds(12), 1);
        PROBE.of("an HOUR is given up;");
        PROBE.is("free(3)", x.free(3), 0);
        PROBE.is("holds(3)", x.holds(3), ClockShares.NONE);
        PROBE.is("nobody is in", x.count(15), ClockShares.NONE);
        PROBE.is("cramped, all of it", x.cramped(), 3);
        PROBE.is("back", x.back(), true);
        PROBE.is("as it was kept", Snapshot.state(x), Snapshot.state(house()));
    }

    private static void numbersThatAreNone() {
        ClockShares x = house();
        PROBE.of("IllegalArgumentException: N is none;");
        PROBE.fails("ahead(-1, 0)", IllegalArgumentException.class, () -> x.ahead(-1, 0));
        PROBE.fails("ahead(201, 3)", IllegalArgumentException.class, () -> x.ahead(201, 3));
        PROBE.of("IllegalArgumentException: N is none.");
        PROBE.fails("warmest(0)", IllegalArgumentException.class, () -> x.warmest(0));
        PROBE.fails("warmest(201)", IllegalArgumentException.class, () -> x.warmest(201));
        PROBE.fails("trial(201, true)", IllegalArgumentException.class, () -> x.trial(201, true));
        PROBE.fails("span(-1, true)", IllegalArgumentException.class, () -> x.span(-1, true));
    }
}
