/** Promises 23, 24, 26, 27, 29 to 31, 39 and 40: wishes, worth, bids, dust that was seen, riches, what is in the way. */
final class WorthTest {
    private static final Probe PROBE = new Probe("WorthTest");
    private static final String F = "family purse 1 dust 0 stove 0";

    public static void main(String[] args) {
        deal();
        trade();
        worth();
        part();
        bids();
        who();
        common();
        rich();
        cramped();
        PROBE.finish();
    }

    private static void deal() {
        PROBE.is("no share, no hour", Probe.house(F + " wishes 0 to 23").deal(), 0);
        PROBE.is("no wish, no hour", Probe.house(F + " hours 0 to 23").deal(), 0);
        PROBE.is("share", Probe.house(F + " hours 0 to 3 wishes 10 to 20").deal(), 4);
        PROBE.is("all", Probe.house(F + " hours 0 to 23 wishes 0 to 23").deal(), 24);
        PROBE.is("both wish the same two", Probe.house(F + " hours 0 to 3 wishes 5 to 6;" + F + " hours 4 to 5 wishes 5 to 6").deal(), 2);
        PROBE.is("one gives way", Probe.house(F + " hours 0 to 1 wishes 5 to 8;" + F + " hours 4 to 5 wishes 5 to 6").deal(), 4);
        PROBE.is("a chain", Probe.house(F + " hours 0 to 0 wishes 5 to 6;" + F + " hours 1 to 1 wishes 6 to 7;" + F + " hours 2 to 2 wishes 7 to 7").deal(), 3);
    }

    private static void trade() {
        PROBE.is("both are gladder", Probe.house(F + " hours 0 to 3 wishes 7 to 7;" + F + " hours 6 to 7 wishes 2 to 2").trade(), 24 * 2 + 7);
        PROBE.is("one is gladder, the least", Probe.house(F + " hours 1 to 3 wishes 7 to 7;" + F + " hours 6 to 7").trade(), 24 + 7);
        PROBE.is("none may be less glad", Probe.house(F + " hours 1 to 1 wishes 7 to 7;" + F + " hours 7 to 7 wishes 7 to 7").trade(), -1);
        PROBE.is("a gain and no loss", Probe.house(F + " hours 1 to 1 wishes 7 to 7;" + F + " hours 7 to 7 wishes 7 to 7;wishes 1 1 to 1").trade(), 24 + 7);
        PROBE.is("two are better than one", Probe.house(F + " hours 0 to 3 wishes 7 to 8;" + F + " hours 6 to 8 wishes 3 to 3").trade(), 24 * 3 + 7);
        PROBE.is("nobody does not swap", Probe.house(F + " hours 0 to 3 wishes 7 to 7").trade(), -1);
        PROBE.is("nobody gains", Probe.house(F + " hours 0 to 3;" + F + " hours 4 to 5").trade(), -1);
    }

    private static void worth() {
        ClockShares x = Probe.house(F + " hours 4 to 7 wishes 5 to 6;" + F + " hours 20 to 23 wishes 20 to 20;" + F + " wishes 7 to 7");
        PROBE.is("none", x.worth(0), 0);
        PROBE.is("two by night, one wished, one other", x.worth(1), 3 + 3 + 2 + 1);
        PROBE.is("two by night, one wished, one other", x.worth(2), 2 + 1 + 3 + 3);
        PROBE.is("wished by one without hours", x.worth(5), 3 + 3 + 2 + 2);
        PROBE.is("all", x.worth(7), 19);
        PROBE.is("bits of none", x.worth(8 | 1), 9);
        PROBE.is("all bits", x.worth(-1), 19);
        PROBE.is("bits of none alone", x.worth(Integer.MIN_VALUE), 0);
    }

    private static void part() {
        ClockShares x = Probe.house(F + " hours 4 to 7 wishes 5 to 6;" + F + " hours 20 to 23 wishes 20 to 20;" + F + " wishes 7 to 7");
        PROBE.is("9 and a half of 19", x.part(0, 19), 950);
        PROBE.is("9 of 19", x.part(1, 19), 900);
        PROBE.is("a half of 19", x.part(2, 19), 50);
        PROBE.is("rounded down", x.part(1, 1), 47);
        PROBE.is("rounded down", x.part(2, 999), 2628);
        PROBE.is("of nothing", x.part(0, 0), 0);
        PROBE.fails("sum -1", IllegalArgumentException.class, () -> x.part(0, -1));
        PROBE.fails("sum 1000", IllegalArgumentException.class, () -> x.part(0, 1000));
        PROBE.fails("no family", IndexOutOfBoundsException.class, () -> x.part(3, 1000));
        PROBE.fails("no family", IndexOutOfBoundsException.class, () -> x.part(-1, 5));
        PROBE.is("without worth", Probe.house(F + ";" + F).part(1, 999), 0);
        PROBE.is("alone", Probe.house(F + " hours 0 to 0").part(0, 999), 99900);
    }

    private static void bids() {
        ClockShares x = Probe.house(F + " wishes 5 to 5;" + F + " wishes 5 to 5;" + F + ";price 10");
        PROBE.is("both wish it: 1 each", x.bids(0, 1, 5), 0b1111 & ~0b0001);
        PROBE.is("the other one would lose by 20", x.bids(0, 2, 5), 0b1100);
        PROBE.is("either way", x.bids(2, 0, 5), 0b1010);
        PROBE.is("neither wishes it", x.bids(0, 1, 6), 0b1001);
        PROBE.is("price 0", Probe.house(F + ";" + F + ";price 0").bids(0, 1, 0), 0b1111);
        PROBE.is("price 15: 30 less 30", Probe.house(F + " wishes 1 to 1;" + F + " wishes 1 to 1;price 15").bids(0, 1, 1), 0b1111);
        PROBE.fails("one", IllegalArgumentException.class, () -> x.bids(1, 1, 5));
        PROBE.fails("no hour", IndexOutOfBoundsException.class, () -> x.bids(1, 1, 24));
        PROBE.fails("no hour", IndexOutOfBoundsException.class, () -> x.bids(0, 1, -1));
        PROBE.fails("no family", IndexOutOfBoundsException.class, () -> x.bids(3, 3, 0));
        PROBE.fails("no family", IndexOutOfBoundsException.class, () -> x.bids(0, -1, 0));
    }

    private static int who(ClockShares x, boolean rows, int... risings) {
        byte[] bytes = new byte[risings.length];
        for (int i = 0; i < bytes.length; i++) {
            bytes[i] = (byte) risings[i];
        }
        Probe.feed(x, bytes);
        return x.who(rows);
    }

    private static void who() {
        ClockShares x = Probe.house("family purse 1 dust 3 stove 0 hours 0 to 1;family purse 1 dust 3 stove 0;family purse 1 dust 0 stove 0;family purse 1 dust 9 stove 0");
        Probe.law(x, "dust 5");
        PROBE.is("none told", who(x, false), 0b1111);
        PROBE.is("none told", who(x, true), 1);
        PROBE.is("3", who(x, false, 3), 0b0011);
        PROBE.is("3, 3", who(x, false, 3, 3), 0b0011);
        PROBE.is("3, 0", who(x, false, 3, 0), 0);
        PROBE.is("0", who(x, false, 0), 0b0100);
        PROBE.is("rows of 3, 0, 3, 9", who(x, true, 3, 0, 3, 9), 4);
        PROBE.is("rows of 8", who(x, true, 8), 0);
        PROBE.is("8192 rows", who(x, true, 3, 3, 3, 3, 3, 3, 3, 3, 3, 3, 3, 3, 3), 8192);
        PROBE.is("16384 rows", who(x, true, 3, 3, 3, 3, 3, 3, 3, 3, 3, 3, 3, 3, 3, 3), 9999);
        PROBE.is("many and then none", who(x, true, 3, 3, 3, 3, 3, 3, 3, 3, 3, 3, 3, 3, 3, 3, 8), 0);
        PROBE.fails("10 is none", IllegalArgumentException.class, () -> who(x, false, 3, 10));
        PROBE.is("the tape is used up", x.feed(0, 0, 0, 0, 0), 20);
        x.end(0);
        PROBE.fails("255 is none", IllegalArgumentException.class, () -> who(x, true, 255));
        PROBE.fails("21 are too many", IllegalArgumentException.class, () -> who(x, true, new int[21]));
        PROBE.is("20 are not", who(x, true, new int[20]), 1);
        PROBE.is("fault is for texts alone", x.fault(), -1);
        String three = "family purse 1 dust 3 stove 0";
        ClockShares six = Probe.house(three + ";" + three + ";" + three + ";" + three + ";" + three + ";" + three);
        PROBE.is("6 to the 20", who(six, true, 3, 3, 3, 3, 3, 3, 3, 3, 3, 3, 3, 3, 3, 3, 3, 3, 3, 3, 3, 3), 9999);
        PROBE.is("7776 rows", who(six, true, 3, 3, 3, 3, 3), 7776);
    }

    private static void common() {
        String two = "family purse 1 dust 2 stove 0";
        String nine = "family purse 1 dust 9 stove 0";
        PROBE.is("one", Probe.house(nine).common(), 9);
        PROBE.is("of several the least", Probe.house(nine + ";" + two).common(), 2);
        PROBE.is("the most", Probe.house(nine + ";" + two + ";" + nine).common(), 9);
        PROBE.is("none", new ClockShares().common(), 0);
    }

    private static void rich() {
        PROBE.is("purse and hours", Probe.house("family purse 50 dust 0 stove 0;family purse 20 dust 0 stove 0 hours 0 to 3").rich(), 1);
        PROBE.is("of several the least", Probe.house("family purse 50 dust 0 stove 0;family purse 10 dust 0 stove 0 hours 0 to 3").rich(), 0);
        PROBE.is("by the price", Probe.house("price 7;family purse 50 dust 0 stove 0;family purse 20 dust 0 stove 0 hours 0 to 3").rich(), 0);
        PROBE.is("all have nothing", Probe.house("family purse 0 dust 0 stove 0;family purse 0 dust 0 stove 0").rich(), 0);
        PROBE.is("none", new ClockShares().rich(), -1);
    }

    private static void cramped() {
        ClockShares x = Probe.house(F + " hours 0 to 0;" + F + " hours 1 to 1;thing 0 bulk 4 left;thing 1 bulk 2 left;thing 1 bulk 9;thing 1 bulk 1 left");
        PROBE.is("the others' things", x.cramped(), 3);
        Probe.feed(x, "hour 1");
        x.deed();
        PROBE.is("the others' things", x.cramped(), 4);
        Probe.feed(x, "hour 2");
        x.deed();
        PROBE.is("all, with nobody in", x.cramped(), 7);
    }
}
