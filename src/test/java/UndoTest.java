/** Promises 46 to 48: acts undone, and the image. */
final class UndoTest {
    private static final Probe PROBE = new Probe("UndoTest");
    private static final String HOUSE = "family purse 30 dust 2 stove 5 hours 0 to 3;family purse 50 dust 1 stove 0 hours 4 to 5;"
        + "thing 0 bulk 5 left;thing 0 bulk 2;guests 100;cold 2";

    public static void main(String[] args) {
        eachAct();
        twelve();
        notActs();
        forgotten();
        image();
        imageStays();
        lawInImage();
        PROBE.finish();
    }

    private static void act(ClockShares x, int which) {
        switch (which) {
            case 0 -> x.sell(0, 1);
            case 1 -> x.buy(9, 1);
            case 2 -> x.swap(3, 4);
            case 3 -> x.free(5);
            case 4 -> x.leave(1);
            case 5 -> x.fetch(0);
            case 6 -> x.quiet();
            case 7 -> x.dust();
            default -> x.hours(100);
        }
    }

    private static void eachAct() {
        for (int which = 0; which <= 8; which++) {
            ClockShares x = Probe.house(HOUSE);
            x.hours(2);
            String before = Snapshot.state(x);
            act(x, which);
            PROBE.is("act " + which + " changes something", Snapshot.state(x).equals(before), false);
            PROBE.is("acts", x.count(17), 2);
            PROBE.is("undo of act " + which, x.undo(), true);
            PROBE.is("all as ahead of act " + which, Snapshot.state(x).equals(before), true);
            PROBE.is("acts", x.count(17), 1);
        }
    }

    private static void twelve() {
        ClockShares x = Probe.house(HOUSE);
        String[] before = new String[30];
        for (int i = 0; i < 30; i++) {
            before[i] = Snapshot.state(x);
            x.hours(1 + i);
            PROBE.is("acts", x.count(17), Math.min(12, i + 1));
        }
        for (int i = 29; i >= 18; i--) {
            PROBE.is("undo", x.undo(), true);
            PROBE.is("all as ahead of act " + i, Snapshot.state(x).equals(before[i]), true);
            PROBE.is("acts", x.count(17), i - 18);
        }
        PROBE.is("no more", x.undo(), false);
        PROBE.is("nothing happens", Snapshot.state(x).equals(before[18]), true);
        x.dust();
        PROBE.is("undo of a new act", x.undo(), true);
        PROBE.is("all as ahead", Snapshot.state(x).equals(before[18]), true);
    }

    private static void notActs() {
        ClockShares x = Probe.house(HOUSE);
        x.dust();
        PROBE.is("seed", x.seed(99), 1);
        x.image();
        x.changes();
        x.trial(50, true);
        PROBE.is("one act", x.count(17), 1);
        PROBE.is("undo", x.undo(), true);
        PROBE.is("the seed is as ahead of it", x.seed(1), 1);
        x.feed(1, 2, 3, 4, 5);
        x.dust();
        PROBE.is("undo", x.undo(), true);
        PROBE.is("the tape stays", x.end(20), true);
        PROBE.fails("a wrong text", IllegalArgumentException.class, x::law);
        x.dust();
        PROBE.is("undo", x.undo(), true);
        PROBE.is("fault stays", x.fault(), 0);
        PROBE.is("the image stays", x.back(), true);
        PROBE.is("the image's seed", x.seed(1), 99);
    }

    private static void forgotten() {
        ClockShares x = Probe.house(HOUSE);
        x.dust();
        x.deed();
        PROBE.is("a text forgets", x.undo(), false);
        x.dust();
        x.law();
        PROBE.is("a law forgets", x.undo(), false);
        x.image();
        x.dust();
        x.back();
        PROBE.is("going back forgets", x.undo(), false);
        x.dust();
        PROBE.is("acts", x.count(17), 1);
        PROBE.is("a call that throws is no act", x.undo(), true);
        PROBE.fails("free", IllegalStateException.class, () -> x.free(23));
        PROBE.is("acts", x.count(17), 0);
    }

    private static void image() {
        ClockShares x = Probe.house(HOUSE);
        PROBE.is("none was kept", x.back(), false);
        x.hours(3);
        PROBE.is("acts stay if none was kept", x.back(), false);
        PROBE.is("acts stay if none was kept", x.count(17), 1);
        String kept = Snapshot.state(x);
        x.image();
        PROBE.is("acts stay as the image is kept", x.count(17), 1);
        x.sell(0, 1);
        x.hours(77);
        x.seed(5);
        Probe.feed(x, "family purse 1 dust 1 stove 1 hours 0 to 23 wishes 0 to 9;thing 2 bulk 9 left;price 3;fine 4;wishes 0 0 to 0");
        x.deed();
        Probe.law(x, "warm 1;dust 2;fine 3");
        PROBE.is("all has changed", Snapshot.state(x).equals(kept), false);
        PROBE.is("back", x.back(), true);
        PROBE.is("all as kept", Snapshot.state(x).equals(kept), true);
        PROBE.is("no acts", x.count(17), 0);
        PROBE.fails("no such family any more", IndexOutOfBoundsException.class, () -> x.family(2, 0));
        PROBE.fails("no such thing any more", IndexOutOfBoundsException.class, () -> x.thing(2, 0));
        x.hours(9);
        PROBE.is("back again", x.back(), true);
        PROBE.is("all as kept", Snapshot.state(x).equals(kept), true);
    }

    private static void imageStays() {
        ClockShares x = Probe.house(HOUSE);
        x.image();
        x.hours(1);
        String later = Snapshot.state(x);
        x.image();
        x.undo();
        PROBE.is("undone", x.count(4), 0);
        x.feed(1, 2, 3, 4, 5);
        PROBE.is("back", x.back(), true);
        PROBE.is("one image, the latest", Snapshot.state(x).equals(later), true);
        PROBE.is("the tape stays", x.end(20), true);
        PROBE.fails("a wrong text", IllegalArgumentException.class, x::deed);
        PROBE.is("fault", x.fault(), 0);
        x.back();
        PROBE.is("fault stays", x.fault(), 0);
    }

    private static void lawInImage() {
        ClockShares x = Probe.house(HOUSE);
        x.image();
        Probe.law(x, "warm 7");
        PROBE.is("law", x.count(3), 1);
        x.back();
        PROBE.is("no law", x.count(3), -1);
        PROBE.is("warms", x.does(0, 0, 0), 5);
        Probe.law(x, "warm 8;dust 1");
        x.image();
        Probe.law(x, "warm 9");
        PROBE.is("warms", x.does(0, 0, 0), 14);
        x.back();
        PROBE.is("law", x.count(3), 2);
        PROBE.is("warms", x.does(0, 0, 0), 13);
    }
}
