import java.lang.reflect.Field;

/** The boundary cases of acts, of acts undone, and of the image. */
final class EdgesOfActsTest {
    private static final Probe PROBE = new Probe("EdgesOfActsTest");
    private static final Class<IllegalStateException> STATE = IllegalStateException.class;
    private static final int[] NO_HOURS = {-1, 24, Integer.MIN_VALUE, Integer.MAX_VALUE};

    public static void main(String[] args) {
        soldForTheWholePurse();
        soldByTheLastHour();
        boughtForTheWholePurse();
        swappedAtTheEdges();
        givenUp();
        leftAndFetched();
        quietedForTheWholePurse();
        dusted();
        noSuchHour();
        noSuchFamilyOrThing();
        twelveRemembered();
        eachActIsOne();
        hoursOfOneCall();
        noneRemembered();
        whatUndoLeaves();
        oneImage();
        whatBackLeaves();
        PROBE.finish();
    }

    /** Two families, the second one with this purse, at this price. */
    private static ClockShares two(int purse, int price) {
        return Probe.house("family purse 50 dust 0 stove 0 hours 0 to 1;family purse " + purse + " dust 0 stove 0 hours 23 to 23;price " + price);
    }

    private static void soldForTheWholePurse() {
        PROBE.of("an HOUR is sold by its FAMILY to another one for PRICE (that one's PURSE)");
        ClockShares x = two(99, 99);
        PROBE.is("seller's purse", x.sell(0, 1), 149);
        PROBE.is("all of a purse", x.family(1, 0), 0);
        PROBE.is("who has it", x.holds(0), 1);
        ClockShares y = two(98, 99);
        PROBE.of("IllegalStateException: nobody HOLDS it, or that one's PURSE is less.");
        PROBE.fails("one too little", STATE, () -> y.sell(0, 1));
        PROBE.fails("nobody has it", STATE, () -> y.sell(2, 0));
        ClockShares z = two(0, 0);
        PROBE.is("for nothing", z.sell(0, 1), 50);
        PROBE.is("an empty purse is enough", z.holds(0), 1);
        PROBE.of("An HOUR is sold: PURSE of its FAMILY then (9999 at most).");
        ClockShares rich = Probe.house("family purse 999 dust 0 stove 0 hours 0 to 23;family purse 999 dust 0 stove 0;price 99");
        int purse = 999;
        for (int hour = 0; hour < 10; hour++) {
            purse += 99;
            PROBE.is("purse", rich.sell(hour, 1), purse);
        }
        PROBE.of("PURSE 0 to 9999");
        PROBE.is("above 999", rich.family(0, 0), 1989);
        soldToTheBrim();
        PROBE.fails("9 are less than 99", STATE, () -> rich.sell(10, 1));
    }

    /** Six purses of 999 never come to 9999, so that this purse is put into the object from outside. */
    private static void soldToTheBrim() {
        PROBE.of("(9999 at most)");
        int[][] rows = {{9899, 9998}, {9900, 9999}, {9901, 9999}, {9999, 9999}};
        for (int[] row : rows) {
            ClockShares x = two(999, 99);
            putPurse(x, 0, row[0]);
            PROBE.is("a purse of " + row[0] + " and 99", x.sell(0, 1), row[1]);
            PROBE.is("as told", x.family(0, 0), row[1]);
            PROBE.is("the buyer pays all", x.family(1, 0), 900);
        }
    }

    private static void putPurse(ClockShares x, int family, int purse) {
        try {
            Object purses = inside(inside(inside(x, "now"), "families"), "purse");
            ((int[]) purses)[family] = purse;
        } catch (ReflectiveOperationException e) {
            throw new IllegalStateException(e);
        }
    }

    private static Object inside(Object of, String name) throws ReflectiveOperationException {
        Field field = of.getClass().getDeclaredField(name);
        field.setAccessible(true);
        return field.get(of);
    }

    private static void soldByTheLastHour() {
        PROBE.of("IllegalArgumentException: that one HOLDS it; IllegalStateException: nobody HOLDS it");
        ClockShares x = two(10, 10);
        PROBE.is("the last hour of a family", x.sell(23, 0), 20);
        PROBE.is("no hour any more", x.family(1, 5), 0);
        PROBE.fails("it has it by now", IllegalArgumentException.class, () -> x.sell(23, 0));
        PROBE.is("sold back", x.sell(23, 1), 50);
        PROBE.is("purse", x.family(1, 0), 10);
    }

    private static void boughtForTheWholePurse() {
        PROBE.of("An HOUR is bought: PURSE then. IllegalStateException: it is HELD, or PURSE is less.");
        ClockShares x = two(99, 99);
        PROBE.is("all of a purse", x.buy(22, 1), 0);
        PROBE.is("who has it", x.holds(22), 1);
        PROBE.is("the other purse", x.family(0, 0), 50);
        PROBE.fails("nothing is left", STATE, () -> x.buy(21, 1));
        PROBE.fails("one too little", STATE, () -> two(98, 99).buy(22, 1));
        PROBE.is("one to spare", two(100, 99).buy(22, 1), 1);
        PROBE.is("for nothing", two(0, 0).buy(22, 1), 0);
        PROBE.fails("another one's", STATE, () -> two(99, 9).buy(0, 1));
        PROBE.fails("its own", STATE, () -> two(99, 9).buy(23, 1));
    }

    private static void swappedAtTheEdges() {
        PROBE.of("Two HOURS are swapped: who HOLDS the first one then.");
        ClockShares x = two(0, 99);
        PROBE.is("the first and the last", x.swap(0, 23), 1);
        PROBE.is("who has the last", x.holds(23), 0);
        PROBE.is("and back", x.swap(23, 0), 1);
        PROBE.is("who has the first", x.holds(0), 0);
        PROBE.is("nobody pays", x.family(0, 0) + x.family(1, 0), 50);
        PROBE.of("IllegalArgumentException: both are one; IllegalStateException: nobody HOLDS one of both, or one FAMILY HOLDS both.");
        PROBE.fails("one, of a family", IllegalArgumentException.class, () -> x.swap(0, 0));
        PROBE.fails("one, of nobody", IllegalArgumentException.class, () -> x.swap(5, 5));
        PROBE.fails("the second of nobody", STATE, () -> x.swap(0, 5));
        PROBE.fails("the first of nobody", STATE, () -> x.swap(5, 0));
        PROBE.fails("both of nobody", STATE, () -> x.swap(5, 6));
        PROBE.fails("both of one", STATE, () -> x.swap(0, 1));
    }

    private static void givenUp() {
        PROBE.of("An HOUR is given up: who had it. IllegalStateException: nobody HOLDS it.");
        ClockShares x = two(0, 99);
        PROBE.is("the first one", x.free(0), 0);
        PROBE.is("the last one", x.free(23), 1);
        PROBE.fails("again", STATE, () -> x.free(0));
        PROBE.fails("again", STATE, () -> x.free(23));
        PROBE.is("nobody is paid", x.family(0, 0) + x.family(1, 0), 50);
    }

    private static void leftAndFetched() {
        PROBE.of("A THING is left: BULK of all that are LEFT then. IllegalStateException: its FAMILY is not IN, or it is LEFT.");
        ClockShares x = Probe.house("family purse 1 dust 0 stove 0 hours 0 to 0;family purse 1 dust 0 stove 0",
            "thing 0 bulk 9;thing 0 bulk 9;thing 0 bulk 9;thing 0 bulk 9;thing 0 bulk 9;thing 0 bulk 9;thing 1 bulk 9 left;thing 0 bulk 9");
        int[] things = {0, 1, 2, 3, 4, 5, 7};
        int bulk = 9;
        for (int thing : things) {
            bulk += 9;
            PROBE.is("leave(" + thing + ")", x.leave(thing), bulk);
            PROBE.fails("it is left", STATE, () -> x.leave(thing));
        }
        PROBE.is("all are left", x.count(14), 255);
        PROBE.of("A THING is fetched: BULK of all that are LEFT then. IllegalStateException: its FAMILY is not IN, or it is not LEFT.");
        PROBE.fails("its family is not in", STATE, () -> x.fetch(6));
        for (int thing : things) {
            bulk -= 9;
            PROBE.is("fetch(" + thing + ")", x.fetch(thing), bulk);
            PROBE.fails("it is not left", STATE, () -> x.fetch(thing));
        }
        PROBE.fails("its family is not in, and it is left", STATE, () -> x.leave(6));
        x.free(0);
        PROBE.fails("nobody is in", STATE, () -> x.leave(0));
        PROBE.fails("nobody is in", STATE, () -> x.fetch(6));
    }

    private static ClockShares quarrel(int purse, int hours) {
        ClockShares x = Probe.house("family purse " + purse + " dust 0 stove 0 hours 0 to 23;guests 100");
        if (hours > 0) {
            x.hours(hours);
        }
        return x;
    }

    private static void quietedForTheWholePurse() {
        PROBE.of("QUARREL is quieted (0, by the one IN for its number of its PURSE)");
        PROBE.is("all of a purse", quarrel(9, 50).quiet(), 0);
        PROBE.is("one to spare", quarrel(10, 50).quiet(), 1);
        PROBE.is("the least quarrel", quarrel(1, 1).quiet(), 0);
        ClockShares x = quarrel(9, 3);
        PROBE.is("a part of a purse", x.quiet(), 6);
        PROBE.is("quieted", x.count(8), 0);
        PROBE.of("IllegalStateException: nobody is IN, QUARREL is 0, or PURSE is less.");
        PROBE.fails("quieted by now", STATE, x::quiet);
        PROBE.fails("none at first", STATE, () -> quarrel(9, 0).quiet());
        PROBE.fails("one too little", STATE, () -> quarrel(8, 50).quiet());
        PROBE.fails("nothing", STATE, () -> quarrel(0, 1).quiet());
        ClockShares empty = quarrel(9, 3);
        empty.free(3);
        PROBE.fails("nobody is in", STATE, empty::quiet);
        PROBE.fails("a house of nobody", STATE, () -> new ClockShares().quiet());
    }

    private static void dusted() {
        PROBE.of("DIRT is dusted: what it was.");
        ClockShares x = Probe.house("family purse 1 dust 9 stove 0 hours 0 to 23");
        PROBE.is("clean by now", x.dust(), 0);
        PROBE.is("an act all the same", x.count(17), 1);
        x.hours(11);
        PROBE.is("the most", x.dust(), 99);
        PROBE.is("nobody need be in", new ClockShares().dust(), 0);
    }

    private static void noSuchHour() {
        PROBE.of("IndexOutOfBoundsException: there is no such HOUR, FAMILY, THING.");
        Class<IndexOutOfBoundsException> none = IndexOutOfBoundsException.class;
        ClockShares x = two(99, 1);
        for (int hour : NO_HOURS) {
            PROBE.fails("holds(" + hour + ")", none, () -> x.holds(hour));
            PROBE.fails("does(0, " + hour + ", 0)", none, () -> x.does(0, hour, 0));
            PROBE.fails("sell(" + hour + ", 1)", none, () -> x.sell(hour, 1));
            PROBE.fails("buy(" + hour + ", 1)", none, () -> x.buy(hour, 1));
            PROBE.fails("swap(" + hour + ", 0)", none, () -> x.swap(hour, 0));
            PROBE.fails("swap(0, " + hour + ")", none, () -> x.swap(0, hour));
            PROBE.fails("free(" + hour + ")", none, () -> x.free(hour));
            PROBE.fails("bids(0, 1, " + hour + ")", none, () -> x.bids(0, 1, hour));
        }
        PROBE.is("no act", x.count(17), 0);
        PROBE.of("Who HOLDS an HOUR; NONE.");
        PROBE.is("of nobody", x.holds(2), ClockShares.NONE);
        PROBE.is("the first hour", x.holds(0), 0);
        PROBE.is("the last hour", x.holds(23), 1);
        PROBE.is("the last hour", x.does(0, 23, 0), 0);
        PROBE.is("the last hour", x.bids(0, 1, 23), x.bids(0, 1, 0));
    }

    private static void noSuchFamilyOrThing() {
        PROBE.of("there is no such HOUR, FAMILY, THING");
        Class<IndexOutOfBoundsException> none = IndexOutOfBoundsException.class;
        ClockShares x = two(99, 1);
        for (int family : new int[] {-1, 2, 6, Integer.MIN_VALUE, Integer.MAX_VALUE}) {
            PROBE.fails("family(" + family + ", 0)", none, () -> x.family(family, 0));
            PROBE.fails("does(" + family + ", 0, 0)", none, () -> x.does(family, 0, 0));
            PROBE.fails("sell(0, " + family + ")", none, () -> x.sell(0, family));
            PROBE.fails("buy(5, " + family + ")", none, () -> x.buy(5, family));
            PROBE.fails("met(" + family + ", 0)", none, () -> x.met(family, 0));
            PROBE.fails("met(0, " + family + ")", none, () -> x.met(0, family));
            PROBE.fails("part(" + family + ", 5)", none, () -> x.part(family, 5));
            PROBE.fails("corner(" + family + ")", none, () -> x.corner(family));
            PROBE.fails("bids(" + family + ", 0, 0)", none, () -> x.bids(family, 0, 0));
            PROBE.fails("bids(0, " + family + ", 0)", none, () -> x.bids(0, family, 0));
            PROBE.fails("ruin(" + family + ")", none, () -> x.ruin(family));
            PROBE.fails("led(" + family + ", true)", none, () -> x.led(family, true));
            PROBE.fails("led(" + family + ", false)", none, () -> x.led(family, false));
        }
        for (int thing : new int[] {-1, 0, 1, 8, Integer.MIN_VALUE, Integer.MAX_VALUE}) {
            PROBE.fails("thing(" + thing + ", 0)", none, () -> x.thing(thing, 0));
            PROBE.fails("leave(" + thing + ")", none, () -> x.leave(thing));
            PROBE.fails("fetch(" + thing + ")", none, () -> x.fetch(thing));
        }
        Probe.feed(x, "thing 0 bulk 1");
        x.deed();
        PROBE.is("the first thing", x.thing(0, 1), 1);
        PROBE.fails("the second thing", none, () -> x.leave(1));
        PROBE.is("leave", x.leave(0), 1);
        PROBE.fails("the second thing", none, () -> x.fetch(1));
    }

    private static void twelveRemembered() {
        PROBE.of("UNDONE: the latest ACT not undone yet (12 are remembered; HOURS of one call are one)");
        for (int acts = 0; acts <= 14; acts++) {
            ClockShares x = Probe.house("family purse 999 dust 1 stove 0 hours 0 to 23");
            for (int i = 0; i < acts; i++) {
                x.hours(1);
            }
            int remembered = Math.min(12, acts);
            PROBE.is("acts that can be undone", x.count(17), remembered);
            for (int i = 1; i <= remembered; i++) {
                PROBE.is("undo", x.undo(), true);
                PROBE.is("hour", x.count(4), acts - i);
                PROBE.is("acts that can be undone", x.count(17), remembered - i);
            }
            PROBE.of("UNDONE: whether there was one.");
            PROBE.is("none any more", x.undo(), false);
            PROBE.is("hour stays", x.count(4), acts - remembered);
            PROBE.is("none any more", x.count(17), 0);
        }
        PROBE.of("the latest ACT not undone yet");
        ClockShares x = Probe.house("family purse 999 dust 1 stove 0 hours 0 to 23");
        for (int i = 0; i < 30; i++) {
            x.hours(2);
            x.hours(3);
            x.undo();
        }
        PROBE.is("hour", x.count(4), 60 % 24);
        PROBE.is("acts", x.count(17), 11);
        x.hours(1);
        PROBE.is("acts", x.count(17), 12);
        for (int i = 0; i < 12; i++) {
            x.undo();
        }
        PROBE.is("hour", x.count(5) * 24 + x.count(4), 60 - 22);
    }

    private interface Act {
        long on(ClockShares x);
    }

    /** In hour 2, with a quarrel, dirt, a thing left and one taken along. */
    private static ClockShares readyForActs() {
        ClockShares x = Probe.house("family purse 30 dust 2 stove 5 hours 0 to 3;family purse 50 dust 1 stove 0 hours 4 to 5;thing 0 bulk 5 left;thing 0 bulk 2;guests 100");
        x.hours(2);
        return x;
    }

    private static void eachActIsOne() {
        PROBE.of("all is as ahead of it");
        Act[] acts = {x -> x.sell(0, 1), x -> x.buy(9, 1), x -> x.swap(3, 4), x -> x.free(5), x -> x.leave(1), x -> x.fetch(0), x -> x.quiet(), x -> x.dust(), x -> x.hours(1)};
        String before = Snapshot.state(readyForActs());
        for (int i = 0; i < acts.length; i++) {
            ClockShares x = readyForActs();
            acts[i].on(x);
            PROBE.is("act " + i + " is remembered", x.count(17), 2);
            PROBE.is("act " + i + " changes something", Snapshot.state(x).equals(before), false);
            PROBE.is("act " + i + " is undone", x.undo(), true);
            PROBE.is("all as ahead of act " + i, Snapshot.state(x), before);
        }
        logThatGoesRound();
    }

    /** Rows that were pushed out of the log come back. */
    private static void logThatGoesRound() {
        ClockShares x = Probe.house("family purse 30 dust 0 stove 0 hours 0 to 10;family purse 30 dust 0 stove 0 hours 11 to 23;guests 100");
        x.hours(50);
        String before = Snapshot.state(x);
        x.image();
        x.hours(100);
        String later = Snapshot.state(x);
        x.hours(33);
        x.undo();
        PROBE.is("rows as ahead of 33 hours", Snapshot.state(x), later);
        x.undo();
        PROBE.is("rows as ahead of 100 hours", Snapshot.state(x), before);
        x.hours(77);
        x.back();
        PROBE.is("rows of the image", Snapshot.state(x), before);
    }

    private static void hoursOfOneCall() {
        PROBE.of("HOURS of one call are one");
        ClockShares x = Probe.house("family purse 999 dust 1 stove 5 hours 0 to 3;guests 50;thing 0 bulk 3 left");
        String before = Snapshot.state(x);
        x.hours(100);
        PROBE.is("one act", x.count(17), 1);
        x.undo();
        PROBE.is("all is as ahead of it", Snapshot.state(x), before);
    }

    private static ClockShares withActs() {
        ClockShares x = two(99, 1);
        x.hours(1);
        x.dust();
        return x;
    }

    private static void noneRemembered() {
        PROBE.of("A text, going back: none are remembered.");
        ClockShares x = withActs();
        x.deed();
        PROBE.is("behind a text of the deed", x.count(17), 0);
        PROBE.is("undo", x.undo(), false);
        PROBE.is("the acts stay", x.count(4), 1);
        ClockShares y = withActs();
        y.law();
        PROBE.is("behind a law", y.count(17), 0);
        PROBE.is("undo", y.undo(), false);
        ClockShares z = withActs();
        z.image();
        PROBE.is("behind keeping the image", z.count(17), 2);
        z.back();
        PROBE.is("behind going back", z.count(17), 0);
        PROBE.is("undo", z.undo(), false);
        ClockShares none = withActs();
        PROBE.is("no image", none.back(), false);
        PROBE.is("not gone back", none.count(17), 2);
        ClockShares notTexts = withActs();
        notTexts.who(true);
        notTexts.seed(5);
        notTexts.feed(1, 2, 3, 4, 5);
        notTexts.end(0);
        PROBE.is("what is neither", notTexts.count(17), 2);
    }

    private static void whatUndoLeaves() {
        PROBE.of("all is as ahead of it (but for the TAPE, fault(), THE IMAGE)");
        ClockShares x = two(99, 1);
        x.dust();
        Probe.feed(x, "cold 5;x");
        PROBE.fails("a wrong text", IllegalArgumentException.class, x::deed);
        Probe.feed(x, "cold 6");
        x.seed(77);
        x.hours(3);
        x.image();
        x.undo();
        PROBE.is("the seed ahead of the hours", x.seed(77), 77);
        x.undo();
        PROBE.is("the seed ahead of the dusting", x.seed(1), 1);
        PROBE.is("fault stays", x.fault(), 7);
        PROBE.is("the tape stays", x.deed(), 2);
        PROBE.is("what it tells", x.count(10), 6);
        PROBE.is("the image stays", x.back(), true);
        PROBE.is("its hour", x.count(4), 3);
    }

    private static void oneImage() {
        PROBE.of("One goes back to THE IMAGE: true; false, and nothing happens, if none was kept.");
        ClockShares x = withActs();
        String before = Snapshot.state(x);
        PROBE.is("none was kept", x.back(), false);
        PROBE.is("nothing happens", Snapshot.state(x), before);
        PROBE.of("THE IMAGE (one) of all may be kept, and gone back to");
        x.image();
        x.hours(1);
        x.image();
        x.hours(1);
        PROBE.is("back", x.back(), true);
        PROBE.is("the latest image", x.count(4), 2);
        x.hours(9);
        PROBE.is("back once more", x.back(), true);
        PROBE.is("the same image", x.count(4), 2);
        x.image();
        PROBE.is("no act is kept with the image", x.count(17), 0);
    }

    private static void whatBackLeaves() {
        PROBE.of("(but for the TAPE, fault() and THE IMAGE itself)");
        ClockShares x = withActs();
        String before = Snapshot.state(x);
        x.image();
        Probe.feed(x, "family purse 5 dust 5 stove 5 hours 0 to 23 wishes 0 to 23;thing 2 bulk 9 left;cold 9;fine 9;price 9;guests 9;hour 9");
        x.deed();
        Probe.law(x, "warm 1;dust 1;fine 1");
        x.seed(9);
        x.hours(50);
        Probe.feed(x, "cold 10");
        PROBE.fails("a wrong text", IllegalArgumentException.class, x::deed);
        Probe.feed(x, "cold 7");
        PROBE.is("back", x.back(), true);
        PROBE.is("all is as it was kept", Snapshot.state(x), before);
        PROBE.is("fault stays", x.fault(), 5);
        PROBE.is("the tape stays", x.deed(), 2);
        PROBE.is("what it tells", x.count(10), 7);
        x.back();
        PROBE.is("all is as it was kept", Snapshot.state(x), before);
    }
}
