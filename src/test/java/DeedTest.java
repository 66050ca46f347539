/** Promises 4, 6, 7 and 49: the texts of the deed, what they set, and their first wrong bytes. */
final class DeedTest {
    private static final Probe PROBE = new Probe("DeedTest");
    private static final String FAMILY = "family purse 1 dust 1 stove 1";

    public static void main(String[] args) {
        settings();
        hours();
        wishes();
        blanks();
        bounds();
        shapes();
        tooMany();
        nothingStays();
        twelveTexts();
        PROBE.finish();
    }

    private static void settings() {
        ClockShares x = Probe.house("cold 9;fine 20;price 99;guests 100;hour 23");
        PROBE.is("cold", x.count(10), 9);
        PROBE.is("fine", x.count(11), 20);
        PROBE.is("price", x.count(12), 99);
        PROBE.is("guests", x.count(13), 100);
        PROBE.is("hour", x.count(4), 23);
        PROBE.is("texts", x.count(2), 1);
        Probe.feed(x, "cold 0;fine 0;price 0;guests 0;hour 0");
        PROBE.is("second text", x.deed(), 2);
        for (int what = 10; what <= 13; what++) {
            PROBE.is("setting " + what, x.count(what), 0);
        }
        PROBE.is("hour", x.count(4), 0);
        x = Probe.house("family purse 999 dust 9 stove 8;thing 0 bulk 9 left;thing 0 bulk 1");
        PROBE.is("purse", x.family(0, 0), 999);
        PROBE.is("dust", x.family(0, 1), 9);
        PROBE.is("stove", x.family(0, 2), 8);
        PROBE.is("things", x.count(1), 2);
        PROBE.is("left", x.count(14), 1);
        PROBE.is("bulk", x.thing(0, 1), 9);
        PROBE.is("bulk", x.thing(1, 1), 1);
        PROBE.is("taken along at first", x.thing(1, 2), 0);
    }

    private static void hours() {
        ClockShares x = Probe.house(FAMILY + " hours 22 to 1;" + FAMILY + ";hours 1 0 to 3;free 3 to 3;hours 0 5 to 5");
        PROBE.is("round the clock", x.family(0, 4), 1 << 22 | 1 << 23 | 1 << 5);
        PROBE.is("whoever had them", x.family(1, 4), 0b0111);
        PROBE.is("free", x.holds(3), -1);
        x = Probe.house(FAMILY + " hours 5 to 4");
        PROBE.is("all round", x.family(0, 4), 0xFFFFFF);
        Probe.feed(x, "free 23 to 0");
        x.deed();
        PROBE.is("free round the clock", x.gaps(), 1 << 23 | 1);
        for (int hour : new int[] {-1, 24, Integer.MIN_VALUE, Integer.MAX_VALUE}) {
            ClockShares y = x;
            PROBE.fails("holds(" + hour + ")", IndexOutOfBoundsException.class, () -> y.holds(hour));
        }
    }

    private static void wishes() {
        ClockShares x = Probe.house(FAMILY + " wishes 23 to 0;" + FAMILY + " hours 1 to 2 wishes 2 to 3;wishes 0 4 to 4;wishes 1 2 to 2");
        PROBE.is("wishes are added", x.family(0, 3), 1 << 23 | 1 | 1 << 4);
        PROBE.is("wishes of the second", x.family(1, 3), 0b1100);
        PROBE.is("hours of the second", x.family(1, 4), 0b0110);
    }

    private static void blanks() {
        ClockShares x = Probe.house("", "   ", "  cold   3  ;  fine 4  ", "cold5;fine6",
            "family purse 12dust 3stove 4hours 5to 6wishes 7to 8;thing0bulk 9left");
        PROBE.is("texts without a line count", x.count(2), 5);
        PROBE.is("cold", x.count(10), 5);
        PROBE.is("fine", x.count(11), 6);
        PROBE.is("a number ends a word", x.family(0, 0), 12);
        PROBE.is("hours", x.family(0, 4), 0b1100000);
        PROBE.is("wishes", x.family(0, 3), 0b110000000);
        PROBE.is("left", x.thing(0, 2), 1);
        x = Probe.house("cold 007");
        PROBE.is("three digits", x.count(10), 7);
        PROBE.deedFault("cold\t1", 4);
        PROBE.deedFault("cold 1\n", 6);
        PROBE.deedFault("  cold   1  ;  ", 15);
        PROBE.deedFault(" ;", 1);
    }

    private static void bounds() {
        PROBE.deedFault("cold 10", 5);
        PROBE.deedFault("cold   0001", 7);
        PROBE.deedFault("fine 21", 5);
        PROBE.deedFault("price 100", 6);
        PROBE.deedFault("guests 101", 7);
        PROBE.deedFault("hour 24", 5);
        PROBE.deedFault("hour 99999999999999999999", 5);
        PROBE.deedFault("free 24 to 1", 5);
        PROBE.deedFault("free 1 to 24", 10);
        PROBE.deedFault("family purse 1000 dust", 13);
        PROBE.deedFault("family purse 999 dust 10", 22);
        PROBE.deedFault("family purse 9 dust 9 stove 10", 28);
        PROBE.deedFault(FAMILY + " hours 24", FAMILY.length() + 7);
        PROBE.deedFault(FAMILY + " wishes 1 to 24", FAMILY.length() + 13);
        PROBE.deedFault(FAMILY + ";thing 0 bulk 0", FAMILY.length() + 14);
        PROBE.deedFault(FAMILY + ";thing 0 bulk 10", FAMILY.length() + 14);
        PROBE.deedFault(FAMILY + ";thing 1 bulk 1", FAMILY.length() + 7);
        PROBE.deedFault("hours 0 1 to 2", 6);
        PROBE.deedFault("wishes 0 1 to 2", 7);
        PROBE.deedFault("thing 0", 6);
    }

    private static void shapes() {
        PROBE.deedFault("family", 6);
        PROBE.deedFault("family   ", 9);
        PROBE.deedFault("families purse 1", 0);
        PROBE.deedFault("Family purse 1", 0);
        PROBE.deedFault("family dust 1", 7);
        PROBE.deedFault("family purse dust", 13);
        PROBE.deedFault("7", 0);
        PROBE.deedFault("cold 1 2", 7);
        PROBE.deedFault("cold 1,fine 2", 6);
        PROBE.deedFault("cold -1", 5);
        PROBE.deedFault("cold 1;;fine 2", 7);
        PROBE.deedFault("cold 1;", 7);
        PROBE.deedFault("free 1 2", 7);
        PROBE.deedFault("free 1 to", 9);
        PROBE.deedFault("free 1 too 2", 7);
        PROBE.deedFault(FAMILY + " wishes 1 to 2 hours 1 to 2", FAMILY.length() + 15);
        PROBE.deedFault(FAMILY + " hour 1 to 2", FAMILY.length() + 1);
        PROBE.deedFault(FAMILY + " left", FAMILY.length() + 1);
        PROBE.deedFault(FAMILY + ";thing 0 bulk 1 lefts", FAMILY.length() + 16);
        PROBE.deedFault(FAMILY + ";hours 0", FAMILY.length() + 8);
        PROBE.deedFault("warm 1", 0);
        PROBE.deedFault("\u00ff", 0);
        PROBE.deedFault("\0", 0);
        PROBE.deedFault("cold 1\0", 6);
    }

    private static String repeat(String line, int times) {
        StringBuilder text = new StringBuilder(line);
        for (int i = 1; i < times; i++) {
            text.append(';').append(line);
        }
        return text.toString();
    }

    private static void tooMany() {
        ClockShares x = Probe.house(repeat("cold 3", 14));
        PROBE.is("14 lines", x.count(10), 3);
        PROBE.deedFault(repeat("cold 3", 15), 98);
        PROBE.deedFault(repeat("cold 3", 14) + ";", 98);
        PROBE.deedFault(repeat("cold 3", 14) + ";  99", 100);
        x = Probe.house(repeat(FAMILY, 6));
        PROBE.is("6 families", x.count(0), 6);
        PROBE.deedFault(x, "family", 0);
        PROBE.deedFault(x, "cold 1; family purse 1000", 8);
        PROBE.is("6 families still", x.count(0), 6);
        PROBE.deedFault(repeat(FAMILY, 7), 180);
        x = Probe.house(FAMILY, repeat("thing 0 bulk 2", 8));
        PROBE.is("8 things", x.count(1), 8);
        PROBE.deedFault(x, "thing 9 bulk", 0);
        PROBE.deedFault(x, "cold 1;thing 0 bulk 1", 7);
        PROBE.is("cold as ahead", x.count(10), 1);
    }

    private static void nothingStays() {
        ClockShares x = Probe.house(FAMILY + " hours 0 to 3 wishes 0 to 0", "price 20");
        x.dust();
        PROBE.deedFault(x, "hours 0 4 to 9;free 0 to 0;wishes 0 1 to 1;" + FAMILY + ";thing 0 bulk 1 left;cold 2;hour 5;x", 107);
        PROBE.is("hours", x.family(0, 4), 0b1111);
        PROBE.is("wishes", x.family(0, 3), 1);
        PROBE.is("families", x.count(0), 1);
        PROBE.is("things", x.count(1), 0);
        PROBE.is("left", x.count(14), 0);
        PROBE.is("cold", x.count(10), 1);
        PROBE.is("hour", x.count(4), 0);
        PROBE.is("texts", x.count(2), 2);
        PROBE.is("acts stay remembered", x.count(17), 1);
        Probe.feed(x, "cold 2");
        x.deed();
        PROBE.is("fault of a right text", x.fault(), -1);
        PROBE.is("a right text forgets the acts", x.count(17), 0);
    }

    private static void twelveTexts() {
        ClockShares x = new ClockShares();
        for (int i = 1; i <= 12; i++) {
            Probe.feed(x, "cold " + (i % 10));
            PROBE.is("text " + i, x.deed(), i);
        }
        PROBE.deedFault(x, "cold 99", 5);
        x.dust();
        Probe.feed(x, "cold 9");
        PROBE.fails("13th text", UnsupportedOperationException.class, x::deed);
        PROBE.is("the 13th text was read and right", x.fault(), -1);
        PROBE.is("cold as by the 12th", x.count(10), 2);
        PROBE.is("texts", x.count(2), 12);
        PROBE.is("acts stay remembered", x.count(17), 1);
        PROBE.is("tape is used up", x.feed(0, 0, 0, 0, 0), 20);
        x.end(0);
        PROBE.fails("an empty 13th text", UnsupportedOperationException.class, x::deed);
    }
}
