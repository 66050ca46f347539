import java.util.NoSuchElementException;

/** Promises 7, 8, 20 to 22, 25, 28, 32 to 34: who has which hours and next to whom. */
final class SharesTest {
    private static final Probe PROBE = new Probe("SharesTest");
    private static final String F = "family purse 1 dust 0 stove 0";

    public static void main(String[] args) {
        families();
        longest();
        comes();
        changesAndMeetings();
        fewest();
        corner();
        lovers();
        lesson();
        widows();
        PROBE.finish();
    }

    private static void families() {
        ClockShares x = Probe.house(F + " hours 4 to 6 wishes 6 to 7;" + F);
        PROBE.is("share", x.family(0, 5), 3);
        PROBE.is("glad", x.family(0, 7), 1);
        PROBE.is("no share", x.family(1, 5), 0);
        PROBE.is("no row", x.family(1, 6), 0);
        PROBE.is("no hours", x.family(1, 4), 0);
        PROBE.is("not glad", x.family(1, 7), 0);
        PROBE.fails("family 2", IndexOutOfBoundsException.class, () -> x.family(2, 0));
        PROBE.fails("family -1", IndexOutOfBoundsException.class, () -> x.family(-1, 0));
        PROBE.fails("no family comes ahead of no what", IndexOutOfBoundsException.class, () -> x.family(6, 9));
        PROBE.fails("what 9", NoSuchElementException.class, () -> x.family(0, 9));
        PROBE.fails("what -1", NoSuchElementException.class, () -> x.family(0, -1));
    }

    private static void longest() {
        PROBE.is("one hour", Probe.house(F + " hours 3 to 3").family(0, 6), 1);
        PROBE.is("round the clock", Probe.house(F + " hours 22 to 3;hours 0 10 to 14").family(0, 6), 6);
        PROBE.is("23", Probe.house(F + " hours 5 to 3").family(0, 6), 23);
        PROBE.is("all", Probe.house(F + " hours 5 to 4").family(0, 6), 24);
        PROBE.is("two rows", Probe.house(F + " hours 1 to 3;hours 0 5 to 6;hours 0 8 to 8").family(0, 6), 3);
    }

    private static void comes() {
        ClockShares x = Probe.house(F + " hours 4 to 6;" + F + " hours 3 to 3;" + F + ";hour 4");
        PROBE.is("now", x.family(0, 8), 0);
        PROBE.is("in 23 hours", x.family(1, 8), 23);
        PROBE.is("never", x.family(2, 8), -1);
        Probe.feed(x, "hour 7");
        x.deed();
        PROBE.is("over midnight", x.family(0, 8), 21);
        PROBE.is("over midnight", x.family(1, 8), 20);
    }

    private static void changesAndMeetings() {
        ClockShares x = Probe.house(F + " hours 0 to 11;" + F + " hours 12 to 23;" + F);
        PROBE.is("changes", x.changes(), 2);
        PROBE.is("met", x.met(0, 1), 1 << 11 | 1 << 23);
        PROBE.is("met either way", x.met(1, 0), 1 << 11 | 1 << 23);
        PROBE.is("never met", x.met(0, 2), 0);
        PROBE.fails("met one", IllegalArgumentException.class, () -> x.met(1, 1));
        PROBE.fails("met none", IndexOutOfBoundsException.class, () -> x.met(3, 3));
        PROBE.fails("met none", IndexOutOfBoundsException.class, () -> x.met(0, -1));
        PROBE.fails("met none", IndexOutOfBoundsException.class, () -> x.met(-1, 0));
        PROBE.is("gaps", x.gaps(), 0);
        Probe.feed(x, "free 0 to 0;free 23 to 23;hours 2 5 to 5");
        x.deed();
        PROBE.is("changes with nobody between", x.changes(), 5);
        PROBE.is("met", x.met(0, 1), 1 << 11);
        PROBE.is("met", x.met(2, 0), 1 << 4 | 1 << 5);
        PROBE.is("gaps", x.gaps(), 1 << 23 | 1);
        PROBE.is("alternating", Probe.house(F + " hours 0 to 23", F + " hours 1 to 1;hours 1 3 to 3;hours 1 5 to 5").changes(), 6);
        PROBE.is("one has all", Probe.house(F + " hours 0 to 23").changes(), 0);
    }

    private static void fewest() {
        PROBE.is("one has all", Probe.house(F + " hours 0 to 23;" + F).fewest(), 0);
        PROBE.is("two have all", Probe.house(F + " hours 0 to 23;" + F + " hours 3 to 3;hours 1 7 to 7").fewest(), 2);
        PROBE.is("one and nobody", Probe.house(F + " hours 3 to 3;hours 0 9 to 9").fewest(), 2);
        PROBE.is("three and nobody", Probe.house(F + " hours 3 to 3;" + F + " hours 4 to 5;" + F + " hours 7 to 7;" + F).fewest(), 4);
        PROBE.is("nobody", Probe.house(F).fewest(), 0);
    }

    private static void corner() {
        ClockShares x = Probe.house(F + " hours 0 to 23;" + F);
        PROBE.is("it has all", x.corner(0), 0);
        PROBE.is("another one has all", x.corner(1), 12);
        PROBE.fails("corner of none", IndexOutOfBoundsException.class, () -> x.corner(2));
        PROBE.fails("corner of none", IndexOutOfBoundsException.class, () -> x.corner(-1));
        ClockShares y = Probe.house(F + " hours 22 to 2;" + F + " hours 3 to 5;" + F + " hours 6 to 6;hours 1 7 to 8;hours 0 20 to 20");
        PROBE.is("rows 3 and 2 of the second", y.corner(0), 2);
        PROBE.is("a row of 5 round the clock", y.corner(1), 2);
        PROBE.is("all rows of two", y.corner(2), 4);
        ClockShares z = Probe.house(F + " hours 1 to 23;" + F + " hours 0 to 0");
        PROBE.is("a row of 23", z.corner(1), 11);
        PROBE.is("a single hour", z.corner(0), 0);
        PROBE.is("nobody has hours", Probe.house(F).corner(0), 0);
    }

    private static void lovers() {
        PROBE.is("two that share the day", Probe.house(F + " hours 0 to 11;" + F + " hours 12 to 23").lovers(), 1);
        PROBE.is("once is not enough", Probe.house(F + " hours 0 to 11;" + F + " hours 12 to 22").lovers(), 0);
        PROBE.is("both behind the same one", Probe.house(F + " hours 0 to 9;" + F + " hours 1 to 1;hours 1 5 to 5;" + F + " hours 8 to 8").lovers(), 2);
        PROBE.is("three in a ring meet once each", Probe.house(F + " hours 0 to 7;" + F + " hours 8 to 15;" + F + " hours 16 to 23").lovers(), 0);
    }

    private static void lesson() {
        ClockShares x = Probe.house(F + " hours 22 to 3 wishes 23 to 2;" + F + " hours 10 to 14 wishes 11 to 20");
        PROBE.is("one hour", x.lesson(1), 0);
        PROBE.is("two hours", x.lesson(2), 0);
        PROBE.is("three hours", x.lesson(3), 0);
        PROBE.is("four hours", x.lesson(4), 11);
        PROBE.is("five hours", x.lesson(5), -1);
        PROBE.is("24 hours", x.lesson(24), -1);
        for (int n : new int[] {0, 25, -1, Integer.MIN_VALUE, Integer.MAX_VALUE}) {
            PROBE.fails("lesson(" + n + ")", IllegalArgumentException.class, () -> x.lesson(n));
        }
        ClockShares y = Probe.house(F + " hours 22 to 3 wishes 22 to 3");
        PROBE.is("round the clock", y.lesson(5), 22);
        PROBE.is("round the clock", y.lesson(6), 22);
        ClockShares z = Probe.house(F + " hours 4 to 3 wishes 6 to 5");
        PROBE.is("all", z.lesson(24), 0);
        ClockShares two = Probe.house(F + " hours 4 to 5 wishes 4 to 9;" + F + " hours 6 to 7 wishes 4 to 9");
        PROBE.is("of one family", two.lesson(3), -1);
        PROBE.is("of one family", two.lesson(2), 4);
    }

    private static void widows() {
        ClockShares x = Probe.house(F + " hours 4 to 4;" + F + " hours 5 to 6;" + F + ";" + F + " hours 23 to 23");
        PROBE.is("widows", x.widows(), 0b1001);
        x.free(5);
        PROBE.is("widows", x.widows(), 0b1011);
        x.free(4);
        PROBE.is("widows", x.widows(), 0b1010);
    }
}
