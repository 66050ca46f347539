import java.util.NoSuchElementException;

/** Calls that throw: the exception that is told first, and that nothing changes but the tape, where it is used up. */
final class RefusalsTest {
    private static final Probe PROBE = new Probe("RefusalsTest");
    private static final Class<IndexOutOfBoundsException> INDEX = IndexOutOfBoundsException.class;
    private static final Class<IllegalArgumentException> ARGUMENT = IllegalArgumentException.class;
    private static final Class<IllegalStateException> STATE = IllegalStateException.class;
    private static final Class<NoSuchElementException> ELEMENT = NoSuchElementException.class;
    private static final String NEXT_TEXT = "price 77";

    private interface Asked {
        long of(ClockShares x);
    }

    public static void main(String[] args) {
        noSuchOne();
        numbersThatAreNone();
        whatCannotBe();
        whats();
        firstOfSeveral();
        textsThatAreWrong();
        thirteenthText();
        risingsThatAreNone();
        falseAndNone();
        PROBE.finish();
    }

    /** A house with an image, acts of several kinds, a log, a fault, and a text on the tape. */
    private static ClockShares busy() {
        ClockShares x = Probe.house("family purse 30 dust 5 stove 2 hours 0 to 5 wishes 2 to 8;family purse 25 dust 3 stove 4 hours 6 to 7;"
            + "family purse 9 dust 0 stove 0;thing 0 bulk 3;thing 1 bulk 4 left;thing 0 bulk 9 left;guests 60");
        Probe.law(x, "warm 3 if wished;dust 2 if night or heat > 20;fine 4");
        x.hours(7);
        x.image();
        x.hours(20);
        x.leave(0);
        x.sell(0, 1);
        x.swap(4, 6);
        x.dust();
        Probe.feed(x, "cold 3;fine 4;zz");
        PROBE.fails("a wrong text", ARGUMENT, x::deed);
        Probe.feed(x, NEXT_TEXT);
        return x;
    }

    private static String whole(ClockShares x) {
        return x.fault() + " " + Snapshot.tapeLength(x) + " " + Snapshot.toTheEnd(x) + "\nnext text " + x.deed() + " " + x.count(12);
    }

    /** The call throws this, and all that can be asked behind it is as if it had never been made. */
    private static void refused(String call, Class<? extends RuntimeException> due, Asked asked) {
        ClockShares x = busy();
        PROBE.fails(call, due, () -> asked.of(x));
        PROBE.is("all behind " + call, whole(x), whole(busy()));
    }

    private static void noSuchOne() {
        PROBE.of("a call that throws changes nothing but the TAPE, where it is used up");
        for (int hour : new int[] {-1, 24}) {
            refused("holds", INDEX, x -> x.holds(hour));
            refused("does", INDEX, x -> x.does(0, hour, 0));
            refused("sell", INDEX, x -> x.sell(hour, 1));
            refused("buy", INDEX, x -> x.buy(hour, 0));
            refused("swap", INDEX, x -> x.swap(hour, 1));
            refused("swap", INDEX, x -> x.swap(1, hour));
            refused("free", INDEX, x -> x.free(hour));
            refused("bids", INDEX, x -> x.bids(0, 1, hour));
        }
        for (int none : new int[] {-1, 3}) {
            refused("family", INDEX, x -> x.family(none, 0));
            refused("does", INDEX, x -> x.does(none, 0, 0));
            refused("thing", INDEX, x -> x.thing(none, 0));
            refused("sell", INDEX, x -> x.sell(0, none));
            refused("buy", INDEX, x -> x.buy(9, none));
            refused("leave", INDEX, x -> x.leave(none));
            refused("fetch", INDEX, x -> x.fetch(none));
            refused("met", INDEX, x -> x.met(none, 0));
            refused("met", INDEX, x -> x.met(0, none));
            refused("part", INDEX, x -> x.part(none, 5));
            refused("corner", INDEX, x -> x.corner(none));
            refused("bids", INDEX, x -> x.bids(none, 0, 0));
            refused("bids", INDEX, x -> x.bids(0, none, 0));
            refused("ruin", INDEX, x -> x.ruin(none));
            refused("led", INDEX, x -> x.led(none, false));
            refused("led", INDEX, x -> x.led(none, true));
        }
    }

    private static void numbersThatAreNone() {
        PROBE.of("IllegalArgumentException: a number is none, or two are one.");
        for (int n : new int[] {0, -1, 101, Integer.MAX_VALUE, Integer.MIN_VALUE}) {
            refused("hours", ARGUMENT, x -> x.hours(n));
        }
        for (int n : new int[] {0, 25}) {
            refused("lesson", ARGUMENT, x -> x.lesson(n));
        }
        for (int n : new int[] {-1, 201}) {
            refused("ahead", ARGUMENT, x -> x.ahead(n, 0));
            refused("trial", ARGUMENT, x -> x.trial(n, true));
            refused("trial", ARGUMENT, x -> x.trial(n, false));
            refused("span", ARGUMENT, x -> x.span(n, true));
            refused("span", ARGUMENT, x -> x.span(n, false));
        }
        refused("dusty", ARGUMENT, x -> x.dusty(0));
        refused("dusty", ARGUMENT, x -> x.dusty(100));
        refused("warmest", ARGUMENT, x -> x.warmest(0));
        refused("warmest", ARGUMENT, x -> x.warmest(201));
        refused("part", ARGUMENT, x -> x.part(0, -1));
        refused("part", ARGUMENT, x -> x.part(0, 1000));
        refused("met", ARGUMENT, x -> x.met(1, 1));
        refused("bids", ARGUMENT, x -> x.bids(2, 2, 0));
        refused("swap", ARGUMENT, x -> x.swap(3, 3));
        refused("sell", ARGUMENT, x -> x.sell(1, 0));
    }

    /** The house is in hour 3, of the first family; the things that were left at first have been fined and taken along. */
    private static void whatCannotBe() {
        PROBE.of("IllegalStateException: it cannot be.");
        refused("sell what nobody has", STATE, x -> x.sell(9, 0));
        refused("sell to one that has less", STATE, x -> x.sell(1, 2));
        refused("buy what one has", STATE, x -> x.buy(1, 1));
        refused("buy with less", STATE, x -> x.buy(9, 2));
        refused("swap with nobody", STATE, x -> x.swap(1, 9));
        refused("swap of nobody", STATE, x -> x.swap(9, 1));
        refused("swap with itself", STATE, x -> x.swap(1, 2));
        refused("free what nobody has", STATE, x -> x.free(9));
        refused("leave what is left", STATE, x -> x.leave(0));
        refused("leave of one that is out", STATE, x -> x.leave(1));
        refused("fetch what is not left", STATE, x -> x.fetch(2));
        refused("fetch of one that is out", STATE, x -> x.fetch(1));
        ClockShares quiet = busy();
        quiet.quiet();
        PROBE.fails("quiet again", STATE, quiet::quiet);
        PROBE.is("acts", quiet.count(17), 7);
        refusedQuiet();
    }

    private static ClockShares dearQuarrel() {
        ClockShares x = Probe.house("family purse 4 dust 0 stove 0 hours 0 to 23;guests 100");
        x.hours(5);
        Probe.feed(x, NEXT_TEXT);
        return x;
    }

    private static void refusedQuiet() {
        ClockShares x = dearQuarrel();
        PROBE.fails("quiet", STATE, x::quiet);
        PROBE.is("all behind quiet", whole(x), whole(dearQuarrel()));
    }

    private static void whats() {
        PROBE.of("NoSuchElementException: another what.");
        refused("family", ELEMENT, x -> x.family(0, 9));
        refused("family", ELEMENT, x -> x.family(0, -1));
        refused("does", ELEMENT, x -> x.does(0, 0, 2));
        refused("does", ELEMENT, x -> x.does(0, 0, -1));
        refused("thing", ELEMENT, x -> x.thing(0, 4));
        refused("thing", ELEMENT, x -> x.thing(0, -1));
        refused("ahead", ELEMENT, x -> x.ahead(0, 3));
        refused("ahead", ELEMENT, x -> x.ahead(200, -1));
        refused("log", ELEMENT, x -> x.log(0, 5));
        refused("log", ELEMENT, x -> x.log(0, -1));
        refused("log where there is no row", ELEMENT, x -> x.log(60, 5));
    }

    private static void firstOfSeveral() {
        PROBE.of("Of several exceptions the one told first is thrown");
        refused("family: no family, no what", INDEX, x -> x.family(3, 9));
        refused("does: no family, no what", INDEX, x -> x.does(3, 0, 2));
        refused("does: no hour, no what", INDEX, x -> x.does(0, 24, 2));
        refused("thing: no thing, no what", INDEX, x -> x.thing(3, 4));
        refused("sell: no hour, to one that has less", INDEX, x -> x.sell(24, 2));
        refused("sell: no family, of nobody", INDEX, x -> x.sell(9, 3));
        refused("sell: neither", INDEX, x -> x.sell(-1, -1));
        PROBE.fails("sell: it has it, and has less", ARGUMENT, () -> Probe.house("family purse 0 dust 0 stove 0 hours 0 to 0").sell(0, 0));
        refused("buy: no hour, with less", INDEX, x -> x.buy(24, 2));
        refused("buy: no family, what one has", INDEX, x -> x.buy(1, 3));
        refused("swap: no hour, both one", INDEX, x -> x.swap(24, 24));
        refused("swap: no second hour, of nobody", INDEX, x -> x.swap(9, 24));
        refused("swap: both one, of nobody", ARGUMENT, x -> x.swap(9, 9));
        refused("met: no family, both one", INDEX, x -> x.met(3, 3));
        refused("part: no family, no sum", INDEX, x -> x.part(3, 1000));
        refused("bids: no family, both one", INDEX, x -> x.bids(3, 3, 0));
        refused("bids: no hour, both one", INDEX, x -> x.bids(0, 0, 24));
        refused("ahead: no number, no what", ARGUMENT, x -> x.ahead(201, 3));
        refused("ahead: no number, no what", ARGUMENT, x -> x.ahead(-1, -1));
    }

    /** The tape is used up and fault() tells the text; all else is as ahead. */
    private static void wrongText(String text, boolean isDeed, int fault) {
        ClockShares x = busy();
        ClockShares y = busy();
        x.end(0);
        y.end(0);
        Probe.feed(x, text);
        PROBE.fails("text " + text, ARGUMENT, isDeed ? x::deed : x::law);
        PROBE.is("fault of " + text, x.fault(), fault);
        PROBE.is("the tape is used up", Snapshot.tapeLength(x), 0);
        PROBE.is("all behind " + text, Snapshot.toTheEnd(x), Snapshot.toTheEnd(y));
    }

    private static void textsThatAreWrong() {
        PROBE.of("changes nothing but the TAPE, where it is used up");
        wrongText("family purse 1 dust 1 stove 1 hours 0 to 23;thing 3 bulk 1 left;hour 9;cold 9;zz", true, 78);
        wrongText("free 0 to 23;wishes 0 0 to 23;hours 1 0 to 3;guests 3;price 3;fine 3;", true, 69);
        wrongText("warm 20;dust 20;fine 20 if", false, 26);
        wrongText("warm 20;dust 20;fine 21", false, 21);
        wrongText("x", false, 0);
    }

    private static void thirteenthText() {
        PROBE.of("UnsupportedOperationException: there are 12.");
        ClockShares x = full();
        Probe.feed(x, "free 0 to 23;cold 9");
        PROBE.fails("a 13th text", UnsupportedOperationException.class, x::deed);
        PROBE.is("the tape is used up", Snapshot.tapeLength(x), 0);
        PROBE.is("all behind a 13th text", Snapshot.toTheEnd(x), Snapshot.toTheEnd(full()));
        ClockShares y = full();
        Probe.feed(y, "free 0 to 23;cold 10");
        PROBE.fails("a wrong 13th text", ARGUMENT, y::deed);
        PROBE.is("its fault", y.fault(), 18);
        PROBE.is("all behind a wrong 13th text", Snapshot.toTheEnd(y), Snapshot.toTheEnd(full()));
    }

    private static ClockShares full() {
        ClockShares x = Probe.house("family purse 9 dust 1 stove 1 hours 0 to 3", "", "", "", "", "", "", "", "", "", "", "cold 2");
        x.image();
        x.hours(2);
        x.dust();
        return x;
    }

    private static void risingsThatAreNone() {
        PROBE.of("IllegalArgumentException: the TAPE is not that (none may be told: all, 1).");
        byte[][] tapes = {{10}, {-1}, {-128}, {127}, {0, 9, 10}, {10, 9, 0}, {'0'}, new byte[21], new byte[400]};
        for (byte[] tape : tapes) {
            for (boolean rows : new boolean[] {false, true}) {
                ClockShares x = busy();
                x.end(0);
                Probe.feed(x, tape);
                PROBE.fails("who of " + tape.length, ARGUMENT, () -> x.who(rows));
                PROBE.is("the tape is used up", Snapshot.tapeLength(x), 0);
                PROBE.is("fault", x.fault(), busy().fault());
                PROBE.is("all behind who", Snapshot.toTheEnd(x), Snapshot.toTheEnd(busy()));
            }
        }
    }

    private static void falseAndNone() {
        PROBE.of("false, and nothing happens, if it has fewer, or n is below 0");
        ClockShares x = busy();
        PROBE.is("end(9)", x.end(NEXT_TEXT.length() + 1), false);
        PROBE.is("end(-1)", x.end(-1), false);
        PROBE.is("all behind end", whole(x), whole(busy()));
        PROBE.of("false, and nothing happens, if none was kept");
        ClockShares y = dearQuarrel();
        PROBE.is("back", y.back(), false);
        PROBE.is("all behind back", whole(y), whole(dearQuarrel()));
        PROBE.of("NONE, and none come, if it would have more than 400");
        ClockShares z = new ClockShares();
        Probe.feed(z, " ".repeat(380) + "cold 7" + " ".repeat(10) + "    ");
        PROBE.is("feed", z.feed(-1, -1, -1, -1, -1), ClockShares.NONE);
        PROBE.is("the text is as ahead", z.deed(), 1);
        PROBE.is("what it tells", z.count(10), 7);
    }
}
