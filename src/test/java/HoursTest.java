import java.util.NoSuchElementException;

/** Promises 19 and 43 to 45, and how an hour goes by: heat, dirt, visitors, changes, fines, the log, the seed. */
final class HoursTest {
    private static final Probe PROBE = new Probe("HoursTest");

    public static void main(String[] args) {
        numbers();
        heatAndDirt();
        limits();
        emptyHours();
        askedAhead();
        clock();
        draws();
        quarrelAtNine();
        fines();
        finesOneByOne();
        noChangeNoFine();
        purseAtZero();
        logOfSixty();
        seeds();
        PROBE.finish();
    }

    private static void numbers() {
        ClockShares x = Probe.house("");
        for (int n : new int[] {0, -1, 101, Integer.MIN_VALUE, Integer.MAX_VALUE}) {
            PROBE.fails("hours(" + n + ")", IllegalArgumentException.class, () -> x.hours(n));
        }
        PROBE.is("nothing happened", x.count(17), 0);
        PROBE.is("hours(1)", x.hours(1), 0);
        PROBE.is("hours(100)", x.hours(100), 0);
        PROBE.is("hour", x.count(4), 101 % 24);
        PROBE.is("day", x.count(5), 101 / 24);
        PROBE.is("two acts", x.count(17), 2);
    }

    private static void heatAndDirt() {
        ClockShares x = Probe.house("family purse 1 dust 2 stove 5 hours 0 to 1;family purse 1 dust 7 stove 0 hours 2 to 2;cold 3");
        x.hours(1);
        PROBE.is("heat", x.count(6), 12);
        PROBE.is("dirt", x.count(7), 2);
        x.hours(2);
        PROBE.is("heat", x.count(6), 11);
        PROBE.is("dirt", x.count(7), 11);
        PROBE.is("nobody is in", x.count(15), -1);
    }

    private static void limits() {
        ClockShares x = Probe.house("family purse 1 dust 9 stove 9 hours 0 to 23;cold 2");
        Probe.law(x, "warm 20;warm 20;dust 20;dust 20");
        x.hours(1);
        PROBE.is("heat", x.count(6), 10 + 49 - 2);
        PROBE.is("dirt", x.count(7), 49);
        x.hours(1);
        PROBE.is("heat is 99 at most ahead of the cold", x.count(6), 97);
        PROBE.is("dirt", x.count(7), 98);
        x.hours(1);
        PROBE.is("dirt is 99 at most", x.count(7), 99);
        ClockShares y = Probe.house("cold 9");
        y.hours(1);
        PROBE.is("heat", y.count(6), 1);
        y.hours(1);
        PROBE.is("heat is 0 at least", y.count(6), 0);
    }

    private static void emptyHours() {
        ClockShares x = Probe.house("guests 100;family purse 1 dust 1 stove 1 hours 2 to 2");
        x.hours(2);
        PROBE.is("it gets cold", x.count(6), 8);
        PROBE.is("no dirt", x.count(7), 0);
        PROBE.is("no quarrel", x.count(8), 0);
        PROBE.is("no row", x.count(16), 0);
        PROBE.is("the draws are made", x.seed(1), next(next(1)));
    }

    /** Heat 10 warms by 1 more, dirt 0 dusts by 1 more: both as ahead of the hour. */
    private static void askedAhead() {
        ClockShares x = Probe.house("family purse 1 dust 1 stove 1 hours 0 to 23;cold 0");
        Probe.law(x, "dust 5 if heat < 11;warm 7 if dirt < 1");
        x.hours(1);
        PROBE.is("dirt by the heat ahead", x.count(7), 6);
        PROBE.is("heat by the dirt ahead", x.count(6), 18);
        x.hours(1);
        PROBE.is("dirt", x.count(7), 7);
        PROBE.is("heat", x.count(6), 19);
    }

    private static void clock() {
        ClockShares x = Probe.house("hour 22");
        x.hours(1);
        PROBE.is("hour", x.count(4), 23);
        PROBE.is("day", x.count(5), 0);
        x.hours(1);
        PROBE.is("hour", x.count(4), 0);
        PROBE.is("day", x.count(5), 1);
        for (int i = 0; i < 24; i++) {
            x.hours(100);
        }
        PROBE.is("hour", x.count(4), 0);
        PROBE.is("day", x.count(5), 101);
    }

    private static int next(int seed) {
        return (int) (1103515245L * seed + 12345L);
    }

    private static void draws() {
        for (int guests : new int[] {0, 1, 37, 50, 99, 100}) {
            ClockShares x = Probe.house("family purse 1 dust 0 stove 0 hours 0 to 11;family purse 1 dust 0 stove 0 hours 12 to 20;guests " + guests);
            int seed = 1;
            int quarrel = 0;
            int of = -1;
            int rows = 0;
            for (int hour = 0; hour < 60; hour++) {
                seed = next(seed);
                int in = hour % 24 < 12 ? 0 : hour % 24 < 21 ? 1 : -1;
                if ((seed >> 16 & 32767) % 100 < guests && in != -1) {
                    quarrel = Math.min(9, quarrel + 1);
                    of = in;
                    rows++;
                }
                x.hours(1);
                PROBE.is("quarrel behind hour " + hour + " with guests " + guests, x.count(8), quarrel);
                PROBE.is("of whom", x.count(9), of);
                PROBE.is("rows", x.count(16), rows);
            }
            PROBE.is("seed", x.seed(0), seed);
        }
    }

    private static void quarrelAtNine() {
        ClockShares x = Probe.house("family purse 1 dust 0 stove 0 hours 0 to 4;family purse 1 dust 0 stove 0 hours 5 to 23;guests 100");
        x.hours(12);
        PROBE.is("quarrel", x.count(8), 9);
        PROBE.is("of the latest one in", x.count(9), 1);
        PROBE.is("rows also at 9", x.count(16), 12);
        int[] latest = {0, 11, 1, 0, 9};
        int[] first = {0, 0, 0, 0, 1};
        for (int what = 0; what < 5; what++) {
            PROBE.is("latest row " + what, x.log(0, what), latest[what]);
            PROBE.is("first row " + what, x.log(11, what), first[what]);
        }
        PROBE.is("no row", x.log(12, 0), -1);
        PROBE.is("no row", x.log(-1, 4), -1);
        PROBE.fails("another what", NoSuchElementException.class, () -> x.log(0, 5));
        PROBE.fails("another what", NoSuchElementException.class, () -> x.log(0, -1));
        PROBE.fails("another what of no row", NoSuchElementException.class, () -> x.log(99, 5));
        PROBE.is("led of the first", x.led(0, false), 5);
        PROBE.is("led of the second", x.led(1, false), 7);
        PROBE.is("day", x.led(1, true), 0);
        PROBE.fails("led of none", IndexOutOfBoundsException.class, () -> x.led(2, false));
        PROBE.fails("led of none", IndexOutOfBoundsException.class, () -> x.led(-1, true));
    }

    private static void fines() {
        ClockShares x = Probe.house("family purse 100 dust 0 stove 0 hours 0 to 23;family purse 50 dust 0 stove 0 hours 1 to 1;hour 23;"
            + "thing 0 bulk 3 left;thing 1 bulk 4 left;thing 0 bulk 2;thing 0 bulk 1 left");
        Probe.law(x, "fine 10 if hour < 1;fine 20 if hour > 0 and hour < 2 and family < 1");
        PROBE.is("no change", x.hours(1), 0);
        PROBE.is("still left", x.count(14), 0b1011);
        PROBE.is("two things are fined", x.hours(1), 2);
        PROBE.is("purse", x.family(0, 0), 100 - 26 - 22);
        PROBE.is("taken along", x.count(14), 0b0010);
        PROBE.is("rows", x.count(16), 2);
        int[] latest = {1, 1, 0, 1, 22};
        int[] earlier = {1, 1, 0, 1, 26};
        for (int what = 0; what < 5; what++) {
            PROBE.is("latest row " + what, x.log(0, what), latest[what]);
            PROBE.is("row before " + what, x.log(1, what), earlier[what]);
        }
        PROBE.is("the other one goes", x.hours(1), 1);
        PROBE.is("the other purse", x.family(1, 0), 42);
        PROBE.is("led", x.led(1, false), 1);
        PROBE.is("led's day", x.led(1, true), 1);
        PROBE.is("hours of several days", x.hours(100), 0);
        PROBE.is("no led of a thing not left", x.led(0, false), 2);
    }

    /** What is left grows less as things are taken along, by numbers. */
    private static void finesOneByOne() {
        ClockShares x = Probe.house("family purse 100 dust 0 stove 0 hours 0 to 0;fine 0;thing 0 bulk 3 left;thing 0 bulk 4 left;thing 0 bulk 2 left");
        Probe.law(x, "fine 1 if left > 8;fine 3 if left > 5;fine 9 if left > 1");
        PROBE.is("three are fined as nobody comes", x.hours(1), 3);
        PROBE.is("first", x.log(2, 4), 13);
        PROBE.is("second", x.log(1, 4), 12);
        PROBE.is("third", x.log(0, 4), 9);
        PROBE.is("purse", x.family(0, 0), 100 - 34);
        ClockShares y = Probe.house("family purse 5 dust 0 stove 0 hours 0 to 0;fine 0;thing 0 bulk 3 left");
        PROBE.is("a fine of 0 is one", y.hours(1), 1);
        PROBE.is("and has a row", y.log(0, 3), 1);
        PROBE.is("of 0", y.log(0, 4), 0);
        PROBE.is("and is taken along", y.count(14), 0);
    }

    private static void noChangeNoFine() {
        ClockShares x = Probe.house("family purse 5 dust 0 stove 0 hours 0 to 23;thing 0 bulk 3 left");
        PROBE.is("one family has all hours", x.hours(100), 0);
        PROBE.is("still left", x.count(14), 1);
        ClockShares y = Probe.house("family purse 5 dust 0 stove 0 hours 1 to 1;family purse 5 dust 0 stove 0;thing 0 bulk 3 left;thing 1 bulk 2 left");
        PROBE.is("nobody goes", y.hours(1), 0);
        PROBE.is("nobody goes", y.count(14), 3);
        PROBE.is("the one that goes is fined alone", y.hours(50), 1);
        PROBE.is("the other's thing stays", y.count(14), 2);
    }

    private static void purseAtZero() {
        ClockShares x = Probe.house("family purse 7 dust 0 stove 0 hours 0 to 0;thing 0 bulk 3 left;thing 0 bulk 9 left");
        PROBE.is("both are fined", x.hours(1), 2);
        PROBE.is("purse is 0 at least", x.family(0, 0), 0);
        PROBE.is("the row tells the whole fine", x.log(0, 4), 18);
    }

    private static void logOfSixty() {
        ClockShares x = Probe.house("family purse 7 dust 0 stove 0 hours 0 to 0;family purse 1 dust 0 stove 0 hours 1 to 23;guests 100");
        x.hours(60);
        PROBE.is("rows", x.count(16), 60);
        PROBE.is("eldest hour", x.log(59, 1), 0);
        PROBE.is("led", x.led(0, false), 3);
        x.hours(1);
        PROBE.is("rows", x.count(16), 60);
        PROBE.is("eldest hour", x.log(59, 1), 1);
        PROBE.is("latest hour", x.log(0, 1), 12);
        PROBE.is("latest day", x.log(0, 0), 2);
        PROBE.is("led", x.led(0, false), 2);
        PROBE.is("led's day", x.led(0, true), 2);
        PROBE.is("no row", x.log(60, 0), -1);
        x.hours(100);
        PROBE.is("rows", x.count(16), 60);
        PROBE.is("latest day", x.log(0, 0), 6);
    }

    private static void seeds() {
        ClockShares x = new ClockShares();
        PROBE.is("seed", x.seed(Integer.MIN_VALUE), 1);
        PROBE.is("seed", x.seed(-1), Integer.MIN_VALUE);
        PROBE.is("seed", x.seed(5), -1);
        x.hours(1);
        PROBE.is("seed", x.seed(Integer.MAX_VALUE), 1103515245 * 5 + 12345);
        x.hours(2);
        PROBE.is("seed", x.seed(0), next(next(Integer.MAX_VALUE)));
        PROBE.is("no act", x.count(17), 2);
    }
}
