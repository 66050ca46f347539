/** Promises 1 to 3 and 6: a new object, feed, end, fault ahead of any text. */
final class TapeTest {
    private static final Probe PROBE = new Probe("TapeTest");

    public static void main(String[] args) {
        newObject();
        feeding();
        ending();
        PROBE.finish();
    }

    private static void newObject() {
        ClockShares x = new ClockShares();
        int[] due = {0, 0, 0, -1, 0, 0, 10, 0, 0, -1, 1, 2, 10, 0, 0, -1, 0, 0};
        for (int what = 0; what < due.length; what++) {
            PROBE.is("count(" + what + ") of a new object", x.count(what), due[what]);
        }
        PROBE.is("count(18)", x.count(18), -1);
        PROBE.is("count(-1)", x.count(-1), -1);
        PROBE.is("count(MIN)", x.count(Integer.MIN_VALUE), -1);
        PROBE.is("count(MAX)", x.count(Integer.MAX_VALUE), -1);
        for (int hour = 0; hour < 24; hour++) {
            PROBE.is("holds(" + hour + ")", x.holds(hour), -1);
        }
        PROBE.is("fault", x.fault(), -1);
        PROBE.is("seed", x.seed(7), 1);
        PROBE.is("gaps", x.gaps(), 0xFFFFFF);
        PROBE.is("changes", x.changes(), 0);
        PROBE.is("fewest", x.fewest(), 0);
        PROBE.is("deal", x.deal(), 0);
        PROBE.is("trade", x.trade(), -1);
        PROBE.is("worth", x.worth(-1), 0);
        PROBE.is("common", x.common(), 0);
        PROBE.is("lovers", x.lovers(), 0);
        PROBE.is("lesson", x.lesson(1), -1);
        PROBE.is("widows", x.widows(), 0);
        PROBE.is("rich", x.rich(), -1);
        PROBE.is("cramped", x.cramped(), 0);
        PROBE.is("undo", x.undo(), false);
        PROBE.is("back", x.back(), false);
        PROBE.fails("family(0, 0)", IndexOutOfBoundsException.class, () -> x.family(0, 0));
        PROBE.fails("thing(0, 0)", IndexOutOfBoundsException.class, () -> x.thing(0, 0));
        PROBE.is("NONE", ClockShares.NONE, -1);
    }

    private static void feeding() {
        ClockShares x = new ClockShares();
        for (int i = 1; i <= 20; i++) {
            PROBE.is("feed " + i, x.feed(i, -i, 0, Integer.MIN_VALUE, -1), 20 * i);
        }
        PROBE.is("feed beyond 400", x.feed(0, 0, 0, 0, 0), -1);
        PROBE.is("still 400", x.end(400), true);
        PROBE.is("401 are not there", x.end(401), false);
        PROBE.is("cut to 381", x.end(381), true);
        PROBE.is("feed to 401", x.feed(0, 0, 0, 0, 0), -1);
        PROBE.is("cut to 380", x.end(380), true);
        PROBE.is("feed to 400", x.feed(0, 0, 0, 0, 0), 400);
        highestByteFirst();
    }

    /** The bytes 3, 1, 4, 1 and so on are risings of these heights, in this order. */
    private static void highestByteFirst() {
        ClockShares x = Probe.house("family purse 1 dust 3 stove 0;family purse 1 dust 1 stove 0");
        x.feed(0x03FF0102, 0, 0, 0, 0);
        x.end(1);
        PROBE.is("the highest byte comes first", x.who(false), 1);
        x.feed(0x01030000, 0, 0, 0, 0);
        x.end(1);
        PROBE.is("the highest byte comes first", x.who(false), 2);
        x.feed(0x80000000, 0, 0, 0, 0);
        x.end(1);
        PROBE.fails("a byte above 127 is no rising", IllegalArgumentException.class, () -> x.who(false));
        Probe.feed(x, "fam");
        x.feed(('i' << 24) | ('l' << 16) | ('y' << 8) | ' ', 0, 0, 0, 0);
        x.end(7);
        PROBE.fails("the text is joined of two feeds", IllegalArgumentException.class, x::deed);
        PROBE.is("fault behind family", x.fault(), 7);
    }

    private static void ending() {
        ClockShares x = new ClockShares();
        PROBE.is("end(0) of none", x.end(0), true);
        PROBE.is("end(1) of none", x.end(1), false);
        PROBE.is("end(-1)", x.end(-1), false);
        PROBE.is("end(MIN)", x.end(Integer.MIN_VALUE), false);
        PROBE.is("end(MAX)", x.end(Integer.MAX_VALUE), false);
        x.feed(1, 2, 3, 4, 5);
        PROBE.is("end(21) of 20", x.end(21), false);
        PROBE.is("end(20) of 20", x.end(20), true);
        PROBE.is("end(5) of 20", x.end(5), true);
        PROBE.is("end(6) of 5", x.end(6), false);
        PROBE.is("feed behind 5", x.feed(0, 0, 0, 0, 0), 25);
    }
}
