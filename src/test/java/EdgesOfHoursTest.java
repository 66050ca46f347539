/** The boundary cases of hours that go by: least and most, draws, changes, fines, the log, hours ahead. */
final class EdgesOfHoursTest {
    private static final Probe PROBE = new Probe("EdgesOfHoursTest");
    private static final String ALL_DAY = "family purse 999 dust 0 stove 0 hours 0 to 23";

    public static void main(String[] args) {
        howManyHours();
        heatAtMost();
        heatAtLeast();
        dirtAtMost();
        asItIsAhead();
        nobodyIn();
        drawBelowGuests();
        drawIsMadeAlways();
        seedGoesRound();
        quarrelAtNine();
        quarrelOfTheOneIn();
        behindTwentyThree();
        lastDay();
        changeOfFamilies();
        noChange();
        outByAnAct();
        finesByNumbers();
        eightThings();
        purseAtLeast();
        hourAsItIsThen();
        fineOfNothing();
        logOfSixty();
        logOfOneHour();
        longestRun();
        PROBE.finish();
    }

    private static ClockShares underLaw(String law, String... deeds) {
        ClockShares x = Probe.house(deeds);
        Probe.law(x, law);
        return x;
    }

    private static void howManyHours() {
        PROBE.of("So many HOURS more (1 to 100): how many THINGS were FINED in these. IllegalArgumentException: they are none.");
        ClockShares x = Probe.house("");
        for (int n : new int[] {0, 101, -1, Integer.MIN_VALUE, Integer.MAX_VALUE}) {
            PROBE.fails("hours(" + n + ")", IllegalArgumentException.class, () -> x.hours(n));
            PROBE.is("no hour went by", x.count(4), 0);
            PROBE.is("no act", x.count(17), 0);
        }
        PROBE.is("the least", x.hours(1), 0);
        PROBE.is("hour", x.count(4), 1);
        PROBE.is("the most", x.hours(100), 0);
        PROBE.is("hour", x.count(4), 101 % 24);
        PROBE.is("day", x.count(5), 4);
        ClockShares y = Probe.house("family purse 99 dust 0 stove 0 hours 0 to 0;family purse 99 dust 0 stove 0 hours 9 to 9;thing 0 bulk 1 left;thing 1 bulk 1 left;thing 1 bulk 2 left");
        PROBE.is("things of several hours", y.hours(10), 3);
        PROBE.is("none any more", y.hours(100), 0);
    }

    private static void heatAtMost() {
        PROBE.of("(b) If there is one IN: HEAT is more by what it WARMS, DIRT by what it DUSTS by, both by all as it is ahead (99 at most).");
        int[][] rows = {{8, 98}, {9, 99}, {10, 99}, {20, 99}};
        for (int[] row : rows) {
            ClockShares x = underLaw("warm 20;warm 20;warm 20;warm 20;warm " + row[0], ALL_DAY + ";cold 0");
            x.hours(1);
            PROBE.is("heat of 10 and 80 and " + row[0], x.count(6), row[1]);
        }
        PROBE.of("(c) HEAT is COLD less (0 at least).");
        ClockShares y = underLaw("warm 20;warm 20;warm 20;warm 20;warm 20", ALL_DAY + ";cold 9");
        y.hours(1);
        PROBE.is("99 at most, then 9 less", y.count(6), 90);
        y.hours(1);
        PROBE.is("again", y.count(6), 90);
    }

    private static void heatAtLeast() {
        PROBE.of("(c) HEAT is COLD less (0 at least).");
        ClockShares x = Probe.house("cold 5");
        x.hours(2);
        PROBE.is("10 less 5 less 5", x.count(6), 0);
        x.hours(1);
        PROBE.is("0 at least", x.count(6), 0);
        ClockShares y = Probe.house("cold 9");
        y.hours(2);
        PROBE.is("1 less 9", y.count(6), 0);
        ClockShares z = Probe.house("cold 0");
        z.hours(100);
        PROBE.is("nothing is lost", z.count(6), 10);
        ClockShares in = Probe.house("family purse 1 dust 0 stove 3 hours 0 to 23;cold 9");
        in.hours(2);
        PROBE.is("10 and 3 less 9 and 3 less 9", in.count(6), 0);
        in.hours(1);
        PROBE.is("0 and 3 less 9", in.count(6), 0);
    }

    private static void dirtAtMost() {
        PROBE.of("HEAT 0 to 99 (10 at first), DIRT 0 to 99 (0 at first)");
        int[][] rows = {{18, 98}, {19, 99}, {20, 99}};
        for (int[] row : rows) {
            ClockShares x = underLaw("dust 20;dust 20;dust 20;dust 20;dust " + row[0], ALL_DAY);
            x.hours(1);
            PROBE.is("dirt of 80 and " + row[0], x.count(7), row[1]);
            x.hours(1);
            PROBE.is("dirt is 99 at most", x.count(7), 99);
            PROBE.is("dusted", x.dust(), 99);
            PROBE.is("clean", x.count(7), 0);
        }
    }

    private static void asItIsAhead() {
        PROBE.of("both by all as it is ahead (99 at most)");
        ClockShares x = underLaw("warm 4 if dirt > 0;dust 6 if heat > 10", "family purse 1 dust 1 stove 1 hours 0 to 23;cold 0");
        x.hours(1);
        PROBE.is("heat by the dirt of 0", x.count(6), 11);
        PROBE.is("dirt by the heat of 10", x.count(7), 1);
        x.hours(1);
        PROBE.is("heat by the dirt of 1", x.count(6), 16);
        PROBE.is("dirt by the heat of 11", x.count(7), 8);
        ClockShares y = underLaw("warm 5 if hour < 1;warm 7 if quarrel < 1", ALL_DAY + ";cold 0;guests 100");
        y.hours(1);
        PROBE.is("the hour and the quarrel as ahead", y.count(6), 22);
        y.hours(1);
        PROBE.is("neither any more", y.count(6), 22);
    }

    private static void nobodyIn() {
        PROBE.of("(a) IN: the FAMILY that HOLDS HOUR; none.");
        ClockShares x = underLaw("warm 20;dust 20", "family purse 1 dust 9 stove 9 hours 1 to 1;guests 100;cold 0");
        PROBE.is("none is in", x.count(15), ClockShares.NONE);
        x.hours(1);
        PROBE.is("heat", x.count(6), 10);
        PROBE.is("dirt", x.count(7), 0);
        PROBE.is("quarrel", x.count(8), 0);
        PROBE.is("rows", x.count(16), 0);
        PROBE.is("one is in", x.count(15), 0);
        x.hours(1);
        PROBE.is("heat", x.count(6), 39);
        PROBE.is("dirt", x.count(7), 29);
        PROBE.is("quarrel", x.count(8), 1);
        PROBE.is("none is in", x.count(15), ClockShares.NONE);
        PROBE.is("a house without families", new ClockShares().hours(100), 0);
    }

    private static int next(int seed) {
        return (int) (1103515245L * seed + 12345L);
    }

    private static int draw(int seed) {
        return (int) ((next(seed) & 0x7FFF0000L) >> 16);
    }

    /** Each seed with as many guests as its draw, and with one more; about half of the next seeds are below 0. */
    private static void drawBelowGuests() {
        PROBE.of("(d) If DRAW modulo 100 is below GUESTS and somebody is IN: QUARREL is 1 more (9 at most), and of the one IN.");
        int below = 0;
        for (int i = 0; i < 60; i++) {
            int seed = i * 715827881 - 40;
            int draw = draw(seed) % 100;
            below += next(seed) < 0 ? 1 : 0;
            for (int guests = draw; guests <= draw + 1; guests++) {
                ClockShares x = Probe.house(ALL_DAY + ";guests " + guests);
                x.seed(seed);
                x.hours(1);
                PROBE.is("quarrel by seed " + seed + " and guests " + guests, x.count(8), guests - draw);
                PROBE.is("seed", x.seed(0), next(seed));
            }
        }
        PROBE.is("some next seeds are below 0", below > 9 && below < 51, true);
        PROBE.of("GUESTS 0 to 100 (0 at first)");
        ClockShares none = Probe.house(ALL_DAY);
        none.hours(100);
        PROBE.is("none come", none.count(16), 0);
        ClockShares all = Probe.house(ALL_DAY + ";guests 100");
        all.hours(60);
        PROBE.is("they come always", all.count(16), 60);
    }

    private static void drawIsMadeAlways() {
        PROBE.of("(The DRAW is made always.)");
        for (String deed : new String[] {"", "guests 100", ALL_DAY, ALL_DAY + ";guests 100"}) {
            ClockShares x = Probe.house(deed);
            x.hours(1);
            PROBE.is("seed behind one hour of " + deed, x.seed(1), next(1));
            x.hours(3);
            PROBE.is("seed behind three hours of " + deed, x.seed(1), next(next(next(1))));
        }
    }

    private static void seedGoesRound() {
        PROBE.of("SEED is 1103515245 times SEED and 12345, as an int that goes round; bits 16 to 30");
        ClockShares x = new ClockShares();
        int before = 1;
        for (int seed : new int[] {0, -1, 1, Integer.MAX_VALUE, Integer.MIN_VALUE, 0x8000, -12345, 1 << 16}) {
            PROBE.is("what it was", x.seed(seed), before);
            x.hours(1);
            before = next(seed);
        }
        PROBE.is("what it is", x.seed(7), before);
        PROBE.of("SEED: what it was.");
        PROBE.is("what it was told", x.seed(8), 7);
    }

    private static void quarrelAtNine() {
        PROBE.of("the latest 60 times that QUARREL was told to be more (0; also at 9)");
        ClockShares x = Probe.house(ALL_DAY + ";guests 100");
        for (int hour = 1; hour <= 12; hour++) {
            x.hours(1);
            PROBE.is("quarrel behind " + hour, x.count(8), Math.min(9, hour));
            PROBE.is("rows behind " + hour, x.count(16), hour);
            PROBE.is("how much", x.log(0, 4), Math.min(9, hour));
        }
    }

    private static void quarrelOfTheOneIn() {
        PROBE.of("QUARREL is 1 more (9 at most), and of the one IN");
        ClockShares x = Probe.house(ALL_DAY + ";family purse 9 dust 0 stove 0 hours 10 to 10;guests 100");
        x.hours(10);
        PROBE.is("of the first one", x.count(9), 0);
        x.hours(1);
        PROBE.is("of the second one, though it is 9 at most", x.count(9), 1);
        PROBE.is("quarrel", x.count(8), 9);
        x.hours(1);
        PROBE.is("of the first one", x.count(9), 0);
    }

    private static void behindTwentyThree() {
        PROBE.of("(e) HOUR is the next one (behind 23: 0, DAY 1 more, 9999 at most).");
        ClockShares x = Probe.house("hour 22");
        x.hours(1);
        PROBE.is("hour", x.count(4), 23);
        PROBE.is("day", x.count(5), 0);
        x.hours(1);
        PROBE.is("hour", x.count(4), 0);
        PROBE.is("day", x.count(5), 1);
        x.hours(24);
        PROBE.is("hour", x.count(4), 0);
        PROBE.is("day", x.count(5), 2);
    }

    /** No object is promised so many calls, but these words hold behind them, too. */
    private static void lastDay() {
        PROBE.of("DAY 1 more, 9999 at most");
        ClockShares x = Probe.house(ALL_DAY + ";guests 100");
        for (int i = 0; i < 2399; i++) {
            x.hours(100);
        }
        x.hours(75);
        PROBE.is("the day ahead of the last one", x.count(5), 9998);
        PROBE.is("hour", x.count(4), 23);
        x.hours(1);
        PROBE.is("the last day", x.count(5), 9999);
        x.hours(23);
        PROBE.is("the last day", x.count(5), 9999);
        x.hours(1);
        PROBE.is("9999 at most", x.count(5), 9999);
        PROBE.is("the hour goes on", x.count(4), 0);
        x.hours(100);
        PROBE.is("9999 at most", x.count(5), 9999);
        PROBE.is("in the log, too", x.log(0, 0), 9999);
    }

    private static void changeOfFamilies() {
        PROBE.of("If the one IN then is another one (or none) than in (a), and there was one");
        String things = ";thing 0 bulk 1 left;thing 1 bulk 1 left";
        ClockShares toAnother = Probe.house("family purse 9 dust 0 stove 0 hours 0 to 0;family purse 9 dust 0 stove 0 hours 1 to 1" + things);
        PROBE.is("to another one", toAnother.hours(1), 1);
        PROBE.is("the other's stays", toAnother.count(14), 2);
        PROBE.is("purse of the one that went", toAnother.family(0, 0), 7);
        PROBE.is("purse of the one that came", toAnother.family(1, 0), 9);
        ClockShares toNone = Probe.house("family purse 9 dust 0 stove 0 hours 0 to 0;family purse 9 dust 0 stove 0" + things);
        PROBE.is("to none", toNone.hours(1), 1);
        PROBE.is("the other's stays", toNone.count(14), 2);
        ClockShares fromNone = Probe.house("family purse 9 dust 0 stove 0 hours 1 to 1;family purse 9 dust 0 stove 0" + things);
        PROBE.is("from none", fromNone.hours(1), 0);
        PROBE.is("both stay", fromNone.count(14), 3);
        ClockShares amongNone = Probe.house("family purse 9 dust 0 stove 0 hours 9 to 9;family purse 9 dust 0 stove 0" + things);
        PROBE.is("from none to none", amongNone.hours(5), 0);
        PROBE.is("both stay", amongNone.count(14), 3);
        PROBE.of("each THING of that one that is LEFT");
        ClockShares notLeft = Probe.house("family purse 9 dust 0 stove 0 hours 0 to 0;thing 0 bulk 1;thing 0 bulk 2 left");
        PROBE.is("one of two", notLeft.hours(1), 1);
        PROBE.is("purse", notLeft.family(0, 0), 5);
        PROBE.of("and the THING is taken along");
        PROBE.is("taken along", notLeft.count(14), 0);
        PROBE.is("not fined again", notLeft.hours(100), 0);
    }

    private static void noChange() {
        PROBE.of("another one (or none) than in (a)");
        ClockShares x = Probe.house(ALL_DAY + ";thing 0 bulk 1 left");
        PROBE.is("one that has all", x.hours(100), 0);
        PROBE.is("still left", x.count(14), 1);
        ClockShares y = Probe.house("family purse 9 dust 0 stove 0 hours 23 to 0;hour 23;thing 0 bulk 1 left");
        PROBE.is("over midnight it stays", y.hours(1), 0);
        PROBE.is("then it goes", y.hours(1), 1);
    }

    /** Who loses the hour it is in is out at once, and fined only as it goes the next time. */
    private static void outByAnAct() {
        PROBE.of("(a) IN: the FAMILY that HOLDS HOUR; none.");
        String two = "family purse 20 dust 0 stove 0 hours 0 to 1;family purse 20 dust 0 stove 0;thing 0 bulk 1 left";
        ClockShares given = Probe.house(two);
        given.free(0);
        PROBE.is("none is in", given.count(15), ClockShares.NONE);
        PROBE.is("no change from none", given.hours(1), 0);
        PROBE.is("the next hour is its own", given.count(15), 0);
        PROBE.is("now it goes", given.hours(1), 1);
        ClockShares sold = Probe.house(two);
        sold.sell(0, 1);
        PROBE.is("another one is in", sold.count(15), 1);
        PROBE.is("another one goes", sold.hours(1), 0);
        PROBE.is("now it goes", sold.hours(1), 1);
    }

    private static void finesByNumbers() {
        PROBE.of("each THING of that one that is LEFT, by numbers: PURSE of that one is less by what it is FINED by");
        ClockShares x = underLaw("fine 10 if left > 5;fine 5 if left > 3", "family purse 100 dust 0 stove 0 hours 0 to 0;family purse 9 dust 0 stove 0;fine 1;"
            + "thing 0 bulk 2 left;thing 1 bulk 1 left;thing 0 bulk 3 left");
        PROBE.is("two things", x.hours(1), 2);
        PROBE.is("the first one, with 6 left", x.log(1, 4), 2 + 15);
        PROBE.is("the third one, with 4 left", x.log(0, 4), 3 + 5);
        PROBE.is("purse", x.family(0, 0), 100 - 17 - 8);
        PROBE.is("rows", x.count(16), 2);
    }

    private static void eightThings() {
        PROBE.of("THINGS (at most 8, numbered from 0 on)");
        ClockShares x = Probe.house("family purse 99 dust 0 stove 0 hours 0 to 0;fine 1;" + "thing 0 bulk 1 left;".repeat(7) + "thing 0 bulk 9 left");
        PROBE.is("all eight are fined", x.hours(1), 8);
        PROBE.is("purse", x.family(0, 0), 99 - 16);
        PROBE.is("the last one is the latest", x.log(0, 4), 9);
        PROBE.is("none is left", x.count(14), 0);
    }

    private static void purseAtLeast() {
        PROBE.of("(0 at least; HOUR as it is then)");
        int[][] rows = {{6, 0}, {7, 1}, {5, 0}, {0, 0}};
        for (int[] row : rows) {
            ClockShares x = Probe.house("family purse " + row[0] + " dust 0 stove 0 hours 0 to 0;thing 0 bulk 3 left");
            PROBE.is("one thing", x.hours(1), 1);
            PROBE.is("purse of " + row[0] + " less 6", x.family(0, 0), row[1]);
            PROBE.is("what it was fined by", x.log(0, 4), 6);
        }
        ClockShares most = underLaw("fine 20;".repeat(11) + "fine 20", "family purse 999 dust 0 stove 0 hours 0 to 0;fine 20;thing 0 bulk 9 left;thing 0 bulk 9 left;thing 0 bulk 9 left");
        PROBE.is("three of the dearest", most.hours(1), 3);
        PROBE.is("999 less 1260", most.family(0, 0), 0);
        PROBE.is("the third one", most.log(0, 4), 420);
    }

    private static void hourAsItIsThen() {
        PROBE.of("HOUR as it is then");
        ClockShares x = underLaw("fine 1 if hour > 22;fine 3 if hour < 1;fine 9 if wished;fine 5 if night", "family purse 99 dust 0 stove 0 hours 23 to 23 wishes 0 to 0;fine 0;hour 23;thing 0 bulk 1 left");
        PROBE.is("asked ahead of the change", x.thing(0, 3), 6);
        x.hours(1);
        PROBE.is("asked in hour 0", x.log(0, 4), 17);
        int[] row = {1, 0, 0, 1, 17};
        for (int what = 0; what < 5; what++) {
            PROBE.is("row " + what, x.log(0, what), row[what]);
        }
    }

    private static void fineOfNothing() {
        PROBE.of("or a THING was FINED (1)");
        ClockShares x = Probe.house("family purse 9 dust 0 stove 0 hours 0 to 0;fine 0;thing 0 bulk 9 left");
        PROBE.is("fined by 0", x.hours(1), 1);
        PROBE.is("purse", x.family(0, 0), 9);
        PROBE.is("a row", x.count(16), 1);
        PROBE.is("of 0", x.log(0, 4), 0);
        PROBE.is("taken along", x.count(14), 0);
    }

    private static void logOfSixty() {
        PROBE.of("THE LOG: the latest 60 times");
        ClockShares x = Probe.house(ALL_DAY + ";guests 100");
        x.hours(59);
        PROBE.is("rows", x.count(16), 59);
        PROBE.is("the eldest", x.log(58, 4), 1);
        PROBE.is("none behind it", x.log(59, 4), ClockShares.NONE);
        x.hours(1);
        PROBE.is("rows", x.count(16), 60);
        PROBE.is("the eldest", x.log(59, 4), 1);
        PROBE.is("none behind it", x.log(60, 4), ClockShares.NONE);
        x.hours(1);
        PROBE.is("rows", x.count(16), 60);
        PROBE.is("the eldest is the second one now", x.log(59, 4), 2);
        PROBE.is("none behind it", x.log(60, 4), ClockShares.NONE);
        x.hours(100);
        PROBE.is("rows", x.count(16), 60);
        for (int ago = 0; ago < 60; ago++) {
            PROBE.is("day " + ago + " ago", x.log(ago, 0), (160 - ago) / 24);
            PROBE.is("hour " + ago + " ago", x.log(ago, 1), (160 - ago) % 24);
        }
        PROBE.of("THE LOG so many ago (0 the latest) what 0 DAY, 1 HOUR, 2 the FAMILY, 3 0 or 1, 4 how much; NONE without.");
        for (int ago : new int[] {-1, 60, 61, 1000, Integer.MIN_VALUE, Integer.MAX_VALUE}) {
            for (int what = 0; what < 5; what++) {
                PROBE.is("log(" + ago + ", " + what + ")", x.log(ago, what), ClockShares.NONE);
            }
        }
        for (int what = 0; what < 5; what++) {
            PROBE.is("an empty log", new ClockShares().log(0, what), ClockShares.NONE);
        }
    }

    /** A quarrel is told in the hour that goes by, a fine in the next one, behind midnight of the next day. */
    private static void logOfOneHour() {
        PROBE.of("DAY, HOUR (as it is then), the FAMILY, 0 or 1, QUARREL, or what it was FINED by.");
        ClockShares x = Probe.house("family purse 9 dust 0 stove 0;family purse 9 dust 0 stove 0 hours 23 to 23;hour 23;guests 100;thing 1 bulk 1 left");
        x.hours(1);
        int[] fined = {1, 0, 1, 1, 2};
        int[] quarrel = {0, 23, 1, 0, 1};
        for (int what = 0; what < 5; what++) {
            PROBE.is("the fine " + what, x.log(0, what), fined[what]);
            PROBE.is("the quarrel " + what, x.log(1, what), quarrel[what]);
        }
        PROBE.of("LED: how many rows of THE LOG are of a FAMILY; the DAY of the latest (none).");
        PROBE.is("rows of both kinds", x.led(1, false), 2);
        PROBE.is("day of the latest", x.led(1, true), 1);
        PROBE.of("LED: how many rows (day false), or the DAY; NONE.");
        PROBE.is("no row", x.led(0, false), 0);
        PROBE.is("no day", x.led(0, true), ClockShares.NONE);
        ClockShares y = Probe.house("family purse 9 dust 0 stove 0 hours 22 to 23;family purse 9 dust 0 stove 0 hours 0 to 21;hour 22;guests 100");
        y.hours(10);
        PROBE.is("rows ahead of another one's", y.led(0, false), 2);
        PROBE.is("their day", y.led(0, true), 0);
        PROBE.is("the other one's rows", y.led(1, false), 8);
        PROBE.is("their day", y.led(1, true), 1);
        Probe.feed(x, "hours 0 0 to 23");
        x.deed();
        x.hours(60);
        PROBE.is("rows that are pushed out", x.led(1, false), 0);
        PROBE.is("their day", x.led(1, true), ClockShares.NONE);
        PROBE.is("all rows of the other one", x.led(0, false), 60);
    }

    private static void longestRun() {
        PROBE.of("An object is used for at most 512 calls after it has been made; what later calls answer is free.");
        ClockShares x = new ClockShares();
        for (int call = 1; call <= 509; call++) {
            x.hours(100);
        }
        PROBE.is("hour", x.count(4), 50900 % 24);
        PROBE.is("day", x.count(5), 50900 / 24);
        PROBE.is("the 512th call", x.count(17), 12);
    }
}
