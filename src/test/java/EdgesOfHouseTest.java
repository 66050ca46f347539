import java.util.NoSuchElementException;

/** The boundary cases of what a house has at first, of what texts set in it, and of what the law adds. */
final class EdgesOfHouseTest {
    private static final Probe PROBE = new Probe("EdgesOfHouseTest");
    private static final String FAMILY = "family purse 1 dust 1 stove 1";
    private static final int ALL = 0xFFFFFF;

    public static void main(String[] args) {
        atFirst();
        leastAndMost();
        roundTheClock();
        whoeverHadThem();
        freeHours();
        wishesToo();
        leftOrTakenAlong();
        hourAlone();
        night();
        wished();
        lessAndMore();
        pairsOfAtoms();
        partsAtTheirEdges();
        sumsOfLines();
        finedBy();
        lawInPlace();
        counts();
        PROBE.finish();
    }

    private static void atFirst() {
        PROBE.of("each HELD by a FAMILY or by nobody (at first)");
        ClockShares x = new ClockShares();
        PROBE.is("hours of nobody", x.gaps(), ALL);
        PROBE.of("A house of nobody.");
        for (int hour = 0; hour < 24; hour++) {
            PROBE.is("who has hour " + hour, x.holds(hour), ClockShares.NONE);
        }
        PROBE.is("families", x.count(0), 0);
        PROBE.is("things", x.count(1), 0);
        PROBE.is("texts", x.count(2), 0);
        PROBE.is("lines of the law", x.count(3), ClockShares.NONE);
        PROBE.is("things left", x.count(14), 0);
        PROBE.is("rows", x.count(16), 0);
        PROBE.is("acts", x.count(17), 0);
        PROBE.is("undo", x.undo(), false);
        PROBE.is("back", x.back(), false);
        PROBE.is("tape", Snapshot.tapeLength(x), 0);
        PROBE.of("HOUR: 0 to 23 (0 at first), DAY (0 at first).");
        PROBE.is("hour", x.count(4), 0);
        PROBE.is("day", x.count(5), 0);
        PROBE.of("HEAT 0 to 99 (10 at first), DIRT 0 to 99 (0 at first), QUARREL 0 to 9 (0 at first), of a FAMILY (none at first).");
        PROBE.is("heat", x.count(6), 10);
        PROBE.is("dirt", x.count(7), 0);
        PROBE.is("quarrel", x.count(8), 0);
        PROBE.of("9 of whom it is (NONE)");
        PROBE.is("of whom", x.count(9), ClockShares.NONE);
        PROBE.of("15 the one IN (NONE)");
        PROBE.is("the one in", x.count(15), ClockShares.NONE);
        PROBE.of("COLD 0 to 9 (1 at first): what is lost in an HOUR. FINE 0 to 20 (2 at first). PRICE 0 to 99 (10 at first). GUESTS 0 to 100 (0 at first).");
        PROBE.is("cold", x.count(10), 1);
        PROBE.is("fine", x.count(11), 2);
        PROBE.is("price", x.count(12), 10);
        PROBE.is("guests", x.count(13), 0);
        PROBE.of("(SEED 1 at first)");
        PROBE.is("seed", x.seed(1), 1);
        PROBE.is("objects do not share a house", Probe.house(FAMILY).count(0) + 10 * new ClockShares().count(0), 1);
    }

    private static void leastAndMost() {
        PROBE.of("cold N | fine N | price N | guests N | hour N | wishes F N to N.");
        ClockShares x = Probe.house("cold 0;fine 0;price 0;guests 0;hour 0");
        ClockShares y = Probe.house("cold 9;fine 20;price 99;guests 100;hour 23");
        int[] most = {9, 20, 99, 100};
        for (int what = 10; what <= 13; what++) {
            PROBE.is("least of " + what, x.count(what), 0);
            PROBE.is("most of " + what, y.count(what), most[what - 10]);
        }
        PROBE.is("first hour", x.count(4), 0);
        PROBE.is("last hour", y.count(4), 23);
        PROBE.of("family purse N dust N stove N");
        ClockShares z = Probe.house("family purse 0 dust 0 stove 0;family purse 999 dust 9 stove 9;family purse 1 dust 2 stove 3");
        int[][] due = {{0, 0, 0}, {999, 9, 9}, {1, 2, 3}};
        for (int family = 0; family < 3; family++) {
            for (int what = 0; what < 3; what++) {
                PROBE.is("family " + family + ", " + what, z.family(family, what), due[family][what]);
            }
        }
    }

    private static void roundTheClock() {
        PROBE.of("hours: from an HOUR to an HOUR (both too), round the clock, if the second is below the first");
        int[][] rows = {{0, 0, 1}, {23, 23, 1 << 23}, {5, 5, 1 << 5}, {0, 23, ALL}, {1, 0, ALL}, {23, 22, ALL}, {12, 11, ALL},
            {23, 0, 1 << 23 | 1}, {22, 1, 3 << 22 | 3}, {0, 1, 3}, {22, 23, 3 << 22}, {2, 0, ALL & ~2}, {0, 22, ALL >> 1}};
        for (int[] row : rows) {
            String hours = row[0] + " to " + row[1];
            PROBE.is("family hours " + hours, Probe.house(FAMILY + " hours " + hours).family(0, 4), row[2]);
            PROBE.is("hours 0 " + hours, Probe.house(FAMILY + ";hours 0 " + hours).family(0, 4), row[2]);
            PROBE.is("family wishes " + hours, Probe.house(FAMILY + " wishes " + hours).family(0, 3), row[2]);
            PROBE.is("wishes 0 " + hours, Probe.house(FAMILY + ";wishes 0 " + hours).family(0, 3), row[2]);
            ClockShares x = Probe.house(FAMILY + " hours 0 to 23", "free " + hours);
            PROBE.is("free " + hours, x.gaps(), row[2]);
            PROBE.is("what stays behind free " + hours, x.family(0, 4), ALL & ~row[2]);
        }
    }

    private static void whoeverHadThem() {
        PROBE.of("all these are HELD by it then, whoever had them");
        ClockShares x = Probe.house(FAMILY + " hours 0 to 9;" + FAMILY + " hours 5 to 14");
        PROBE.is("the first one keeps", x.family(0, 4), 0x1F);
        PROBE.is("the second one has", x.family(1, 4), 0x7FE0);
        Probe.feed(x, "hours 0 9 to 10;hours 0 0 to 0");
        x.deed();
        PROBE.is("taken back", x.family(0, 4), 0x61F);
        PROBE.is("less by two", x.family(1, 4), 0x79E0);
        PROBE.is("no purse changes", x.family(0, 0) + x.family(1, 0), 2);
    }

    private static void freeHours() {
        PROBE.of("free: by nobody");
        ClockShares x = Probe.house(FAMILY + " hours 0 to 9;" + FAMILY + " hours 10 to 19", "free 9 to 10;free 20 to 20");
        PROBE.is("of both", x.gaps(), 0xF00600);
        PROBE.is("nobody has hour 9", x.holds(9), ClockShares.NONE);
        PROBE.is("free needs no family", Probe.house("free 0 to 23").gaps(), ALL);
    }

    private static void wishesToo() {
        PROBE.of("wishes: these too are WISHES");
        ClockShares x = Probe.house(FAMILY + " wishes 0 to 1;" + FAMILY + ";wishes 0 1 to 2;wishes 0 23 to 23");
        PROBE.is("all of them", x.family(0, 3), 0x800007);
        PROBE.is("none of the other one", x.family(1, 3), 0);
        PROBE.is("wishes hold no hour", x.gaps(), ALL);
    }

    private static void leftOrTakenAlong() {
        PROBE.of("LEFT in the house or taken along (taken along at first)");
        ClockShares x = Probe.house(FAMILY + ";" + FAMILY + ";thing 1 bulk 1;thing 0 bulk 9 left");
        PROBE.is("left, as bits", x.count(14), 2);
        PROBE.is("taken along", x.thing(0, 2), 0);
        PROBE.is("left", x.thing(1, 2), 1);
        PROBE.is("whose", x.thing(0, 0), 1);
        PROBE.is("whose", x.thing(1, 0), 0);
        PROBE.is("bulk", x.thing(0, 1), 1);
        PROBE.is("bulk", x.thing(1, 1), 9);
    }

    /** A text that sets the hour is no hour that goes by: nobody is fined, nothing is warmed. */
    private static void hourAlone() {
        PROBE.of("hour N | wishes F N to N.");
        ClockShares x = Probe.house(FAMILY + " hours 0 to 0;thing 0 bulk 1 left", "hour 23");
        PROBE.is("hour", x.count(4), 23);
        PROBE.is("day", x.count(5), 0);
        PROBE.is("heat", x.count(6), 10);
        PROBE.is("still left", x.count(14), 1);
        PROBE.is("rows", x.count(16), 0);
        Probe.feed(x, "hour 0");
        x.deed();
        PROBE.is("day", x.count(5), 0);
        PROBE.is("seed", x.seed(1), 1);
    }

    private static ClockShares under(String law) {
        ClockShares x = Probe.house("family purse 9 dust 1 stove 2 wishes 3 to 4;family purse 9 dust 3 stove 4 wishes 23 to 0;thing 0 bulk 3 left;thing 1 bulk 4");
        Probe.law(x, law);
        return x;
    }

    private static boolean holds(String condition, int family, int hour) {
        return under("warm 20 if " + condition).does(family, hour, 0) == (family == 0 ? 22 : 24);
    }

    private static void night() {
        PROBE.of("night: HOUR is below 6 or above 21");
        ClockShares x = under("dust 20 if night");
        for (int hour = 0; hour < 24; hour++) {
            PROBE.is("dust at " + hour, x.does(0, hour, 1), hour <= 5 || hour >= 22 ? 21 : 1);
        }
    }

    private static void wished() {
        PROBE.of("wished: HOUR is among its WISHES.");
        ClockShares x = under("dust 20 if wished");
        for (int hour = 0; hour < 24; hour++) {
            PROBE.is("dust at " + hour, x.does(0, hour, 1), hour == 3 || hour == 4 ? 21 : 1);
            PROBE.is("dust of the other one at " + hour, x.does(1, hour, 1), hour == 23 || hour == 0 ? 23 : 3);
        }
    }

    private static void lessAndMore() {
        PROBE.of("SUM < SUM | SUM > SUM. SUM: PART { + PART }");
        int[][] pairs = {{0, 0}, {0, 1}, {1, 0}, {5, 5}, {998, 999}, {999, 998}, {999, 999}, {9, 10}, {100, 99}};
        for (int[] pair : pairs) {
            String less = pair[0] + " < " + pair[1];
            String more = pair[0] + " > " + pair[1];
            PROBE.is(less, holds(less, 0, 0), pair[0] < pair[1]);
            PROBE.is(more, holds(more, 0, 0), pair[0] > pair[1]);
        }
        PROBE.is("a sum of many", holds("999+999+999+999+999+999+999+999 < 999+999+999+999+999+999+999+998+1", 0, 0), false);
        PROBE.is("a sum of many", holds("999+999+999+999+999+999+999+999 < 999+999+999+999+999+999+999+999+1", 0, 0), true);
        PROBE.of("C: ALL { or ALL }; ALL: ATOM { and ATOM }; ATOM: not ATOM | ( C ) | night | wished");
        PROBE.is("one of three by or", holds("1<2 or 2<1 or 2<1", 0, 0), true);
        PROBE.is("one of three by or", holds("2<1 or 1<2 or 2<1", 0, 0), true);
        PROBE.is("one of three by or", holds("2<1 or 2<1 or 1<2", 0, 0), true);
        PROBE.is("none of three by or", holds("2<1 or 2<1 or 2<1", 0, 0), false);
        PROBE.is("all of three by and", holds("1<2 and 1<2 and 1<2", 0, 0), true);
        PROBE.is("all but one of three by and", holds("1<2 and 2<1 and 1<2", 0, 0), false);
        PROBE.is("or of an and", holds("1<2 or 1<2 and 2<1", 0, 0), true);
        PROBE.is("and of an or in brackets", holds("(1<2 or 1<2) and 2<1", 0, 0), false);
        PROBE.is("not of the first alone", holds("not 1<2 or 1<2", 0, 0), true);
        PROBE.is("not of the first alone", holds("not 2<1 and 2<1", 0, 0), false);
        PROBE.is("not of both", holds("not (2<1 and 2<1)", 0, 0), true);
        PROBE.is("more that does not hold, and", holds("2>3 and 1<2", 0, 0), false);
        PROBE.is("more that does not hold, or", holds("2>3 or 2<1", 0, 0), false);
        PROBE.is("not of more", holds("not 2>3", 0, 0), true);
        PROBE.is("not of wished", holds("not wished", 0, 0), true);
        PROBE.is("wished that does not hold, and", holds("wished and 1<2", 0, 0), false);
        PROBE.is("wished that does not hold, or", holds("wished or 2<1", 0, 0), false);
        PROBE.is("not of night", holds("not night", 0, 12), true);
        PROBE.is("night that does not hold, and", holds("night and 1<2", 0, 12), false);
        PROBE.is("not of not", holds("not not 1<2", 0, 0), true);
    }

    /** Each pair of atoms, of which each holds and does not, joined and turned in each way. */
    private static void pairsOfAtoms() {
        PROBE.of("ATOM: not ATOM | ( C ) | night | wished | SUM < SUM | SUM > SUM");
        String[] atoms = {"night", "wished", "hour < 4", "hour > 3", "not night", "not wished", "not hour < 4", "(night)", "not (wished)"};
        for (String first : atoms) {
            for (String second : atoms) {
                for (int hour : new int[] {0, 3, 4, 12}) {
                    boolean a = atomHolds(first, hour);
                    boolean b = atomHolds(second, hour);
                    PROBE.is(first + " and " + second + " at " + hour, holds(first + " and " + second, 0, hour), a && b);
                    PROBE.is(first + " or " + second + " at " + hour, holds(first + " or " + second, 0, hour), a || b);
                    PROBE.is("not (" + first + " or " + second + ") at " + hour, holds("not (" + first + " or " + second + ")", 0, hour), !a && !b);
                }
            }
        }
    }

    /** The first family of the house wishes the hours 3 and 4. */
    private static boolean atomHolds(String atom, int hour) {
        return switch (atom) {
            case "night", "(night)" -> hour < 6 || hour > 21;
            case "wished" -> hour == 3 || hour == 4;
            case "hour < 4" -> hour < 4;
            case "hour > 3", "not hour < 4" -> hour > 3;
            case "not night" -> hour >= 6 && hour <= 21;
            default -> hour != 3 && hour != 4;
        };
    }

    /** Each part once as great as can be here and once next to it. */
    private static void partsAtTheirEdges() {
        PROBE.of("PART: NUMBER | family | hour | heat | dirt | quarrel | left.");
        String five = "family purse 1 dust 0 stove 0;family purse 1 dust 0 stove 0;family purse 1 dust 0 stove 0;family purse 1 dust 0 stove 0;family purse 1 dust 0 stove 0";
        ClockShares x = Probe.house(five, "family purse 999 dust 9 stove 9 hours 0 to 23;guests 100;cold 0",
            "thing 0 bulk 9 left;thing 1 bulk 9 left;thing 2 bulk 9 left;thing 3 bulk 9 left;thing 4 bulk 9 left;thing 5 bulk 9 left;thing 5 bulk 9 left;thing 5 bulk 9 left");
        x.hours(100);
        part(x, "family", 5);
        part(x, "hour", 23);
        part(x, "heat", 99);
        part(x, "dirt", 99);
        part(x, "quarrel", 9);
        part(x, "left", 72);
        PROBE.of("left: BULK of all THINGS LEFT, together");
        ClockShares y = Probe.house("cold 9;" + FAMILY + ";thing 0 bulk 9");
        y.hours(2);
        part(y, "heat", 0);
        part(y, "dirt", 0);
        part(y, "quarrel", 0);
        part(y, "left", 0);
    }

    private static void part(ClockShares x, String part, int value) {
        int last = x.count(0) - 1;
        Probe.law(x, "warm 1 if " + part + " > " + value);
        int stove = x.family(last, 2);
        PROBE.is(part + " is more than " + value, x.does(last, 23, 0) - stove, 0);
        Probe.law(x, "warm 1 if " + part + " + 1 > " + value);
        PROBE.is(part + " is as much as " + value, x.does(last, 23, 0) - stove, 1);
        Probe.law(x, "warm 1 if " + part + " < " + value);
        PROBE.is(part + " is less than " + value, x.does(last, 23, 0) - stove, 0);
    }

    private static void sumsOfLines() {
        PROBE.of("WARMS by: STOVE and the sum of N of all warm LINES that hold.");
        String warm = "warm 20;".repeat(11) + "warm 20";
        String dust = "dust 20;".repeat(11) + "dust 20";
        ClockShares x = Probe.house("family purse 9 dust 9 stove 9 hours 0 to 23");
        PROBE.is("without a law", x.does(0, 0, 0), 9);
        Probe.law(x, warm);
        PROBE.is("the most it may warm", x.does(0, 0, 0), 249);
        PROBE.is("warm lines make no dust", x.does(0, 0, 1), 9);
        PROBE.of("DUSTS by: DUST and the sum of N of all dust LINES.");
        Probe.law(x, dust);
        PROBE.is("the most it may dust", x.does(0, 0, 1), 249);
        PROBE.is("dust lines do not warm", x.does(0, 0, 0), 9);
        Probe.law(x, "warm 3 if 1 < 1;dust 4 if 1 < 1;warm 0;dust 0;warm 1 if night;dust 2 if not night;warm 5;dust 7");
        PROBE.is("by night", x.does(0, 5, 0), 9 + 1 + 5);
        PROBE.is("by night", x.does(0, 5, 1), 9 + 7);
        PROBE.is("by day", x.does(0, 6, 0), 9 + 5);
        PROBE.is("by day", x.does(0, 6, 1), 9 + 2 + 7);
    }

    private static void finedBy() {
        PROBE.of("FINED by (for a THING that was left, asked of its FAMILY): FINE times BULK, and the sum of N of all fine LINES.");
        ClockShares x = Probe.house(FAMILY + " wishes 7 to 7;" + FAMILY + ";thing 0 bulk 1;thing 1 bulk 9;fine 20;hour 7");
        PROBE.is("least", x.thing(0, 3), 20);
        PROBE.is("most", x.thing(1, 3), 180);
        Probe.law(x, "fine 20;".repeat(11) + "fine 20");
        PROBE.is("the most of all", x.thing(1, 3), 420);
        Probe.law(x, "fine 1 if family < 1;fine 2 if family > 0;fine 4 if wished;fine 8 if 1 < 1;warm 16;dust 16");
        PROBE.is("asked of the first one", x.thing(0, 3), 20 + 1 + 4);
        PROBE.is("asked of the second one", x.thing(1, 3), 180 + 2);
        Probe.feed(x, "fine 0");
        x.deed();
        PROBE.is("by the law alone", x.thing(1, 3), 2);
        x.law();
        PROBE.is("by nothing", x.thing(1, 3), 0);
    }

    private static void lawInPlace() {
        PROBE.of("THE LAW (a text, in place of the one before)");
        ClockShares x = under("warm 1;dust 2;fine 3");
        PROBE.is("lines", x.count(3), 3);
        Probe.law(x, "dust 5");
        PROBE.is("lines", x.count(3), 1);
        PROBE.is("no more warm", x.does(0, 0, 0), 2);
        PROBE.is("other dust", x.does(0, 0, 1), 6);
        PROBE.is("no more fine", x.thing(0, 3), 6);
        x.law();
        PROBE.is("no lines", x.count(3), 0);
        PROBE.is("no more dust", x.does(0, 0, 1), 1);
        PROBE.of("3 LINES of THE LAW (NONE without one)");
        PROBE.is("without one", new ClockShares().count(3), ClockShares.NONE);
    }

    private static void counts() {
        PROBE.of("NONE for another what.");
        ClockShares x = Probe.house(FAMILY + " hours 0 to 23;thing 0 bulk 1 left;guests 100;cold 2;fine 3;price 4;hour 23", "");
        Probe.law(x, "warm 1;warm 1;warm 1");
        x.hours(2);
        x.dust();
        int[] due = {1, 1, 2, 3, 1, 1, 14, 0, 2, 0, 2, 3, 4, 100, 1, 0, 2, 2};
        for (int what = 0; what < due.length; what++) {
            PROBE.is("count(" + what + ")", x.count(what), due[what]);
        }
        for (int what : new int[] {-1, 18, 19, 100, Integer.MIN_VALUE, Integer.MAX_VALUE, -18}) {
            PROBE.is("count(" + what + ")", x.count(what), ClockShares.NONE);
        }
        for (int what : new int[] {-1, 9, Integer.MIN_VALUE, Integer.MAX_VALUE}) {
            PROBE.fails("family(0, " + what + ")", NoSuchElementException.class, () -> x.family(0, what));
        }
        for (int what : new int[] {-1, 2, Integer.MIN_VALUE, Integer.MAX_VALUE}) {
            PROBE.fails("does(0, 0, " + what + ")", NoSuchElementException.class, () -> x.does(0, 0, what));
        }
        for (int what : new int[] {-1, 4, Integer.MIN_VALUE, Integer.MAX_VALUE}) {
            PROBE.fails("thing(0, " + what + ")", NoSuchElementException.class, () -> x.thing(0, what));
        }
        for (int what : new int[] {-1, 5, Integer.MIN_VALUE, Integer.MAX_VALUE}) {
            PROBE.fails("log(0, " + what + ")", NoSuchElementException.class, () -> x.log(0, what));
        }
        for (int what : new int[] {-1, 3, Integer.MIN_VALUE, Integer.MAX_VALUE}) {
            PROBE.fails("ahead(0, " + what + ")", NoSuchElementException.class, () -> x.ahead(0, what));
        }
    }
}
