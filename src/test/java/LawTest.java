/** Promises 5, 6, 9 and 10: the law, what it adds, and its first wrong bytes. */
final class LawTest {
    private static final Probe PROBE = new Probe("LawTest");
    private static final String HOUSE = "family purse 9 dust 1 stove 2 hours 0 to 11 wishes 3 to 4;"
        + "family purse 9 dust 3 stove 4 hours 12 to 23 wishes 12 to 12;thing 0 bulk 3 left;thing 1 bulk 4 left;thing 1 bulk 2";

    public static void main(String[] args) {
        sums();
        conditions();
        parts();
        depth();
        replaced();
        faults();
        fullTape();
        whats();
        PROBE.finish();
    }

    private static ClockShares under(String law) {
        ClockShares x = Probe.house(HOUSE);
        Probe.law(x, law);
        return x;
    }

    private static void sums() {
        ClockShares x = under("warm 5;dust 6;fine 7;warm 20;dust 0;fine 1");
        PROBE.is("lines", x.count(3), 6);
        PROBE.is("warms", x.does(0, 0, 0), 27);
        PROBE.is("dusts", x.does(1, 0, 1), 9);
        PROBE.is("fined", x.thing(0, 3), 2 * 3 + 8);
        PROBE.is("fined, though taken along", x.thing(2, 3), 2 * 2 + 8);
    }

    /** What warm 1 if C adds to a family in an hour. */
    private static int holds(String condition, int family, int hour) {
        ClockShares x = under("warm 1 if " + condition);
        return x.does(family, hour, 0) - (family == 0 ? 2 : 4);
    }

    private static void conditions() {
        for (int hour = 0; hour < 24; hour++) {
            PROBE.is("night at " + hour, holds("night", 0, hour), hour < 6 || hour > 21 ? 1 : 0);
            PROBE.is("wished at " + hour, holds("wished", 0, hour), hour == 3 || hour == 4 ? 1 : 0);
            PROBE.is("wished at " + hour, holds("wished", 1, hour), hour == 12 ? 1 : 0);
            PROBE.is("not night at " + hour, holds("not night", 1, hour), hour < 6 || hour > 21 ? 0 : 1);
        }
        PROBE.is("less", holds("1<2", 0, 0), 1);
        PROBE.is("like is not less", holds("2<2", 0, 0), 0);
        PROBE.is("more", holds("3>2", 0, 0), 1);
        PROBE.is("like is not more", holds("2>2", 0, 0), 0);
        PROBE.is("and binds closer than or", holds("1<2 or 1<2 and 2<1", 0, 0), 1);
        PROBE.is("and binds closer than or", holds("2<1 and 1<2 or 1<2", 0, 0), 1);
        PROBE.is("brackets bind closest", holds("2<1 and (1<2 or 1<2)", 0, 0), 0);
        PROBE.is("or of three", holds("2<1 or 2<1 or 1<2", 0, 0), 1);
        PROBE.is("and of three", holds("1<2 and 1<2 and 2<1", 0, 0), 0);
        PROBE.is("not binds closer than and", holds("not 2<1 and 2<1", 0, 0), 0);
        PROBE.is("not binds closer than or", holds("not 1<2 or 1<2", 0, 0), 1);
        PROBE.is("or and and mixed", holds("2<1 or 1<2 and 1<2 or 2<1 and 1<2", 0, 0), 1);
        PROBE.is("or and and mixed", holds("2<1 or 1<2 and 2<1 or 2<1 and 1<2", 0, 0), 0);
        PROBE.is("not of brackets", holds("not (1<2 and 2<1)", 0, 0), 1);
        PROBE.is("no blanks", holds("not(night)and(wished)or(5<hour+1)", 0, 5), 1);
    }

    private static void parts() {
        PROBE.is("family", holds("family > 0", 1, 0), 1);
        PROBE.is("family", holds("family > 0", 0, 0), 0);
        PROBE.is("hour told", holds("hour > 16 and hour < 18", 0, 17), 1);
        PROBE.is("heat", holds("heat > 9 and heat < 11", 0, 0), 1);
        PROBE.is("dirt", holds("dirt < 1", 0, 0), 1);
        PROBE.is("quarrel", holds("quarrel < 1", 0, 0), 1);
        PROBE.is("left of all", holds("left > 6 and left < 8", 0, 0), 1);
        PROBE.is("sum", holds("family + hour + heat + dirt + quarrel + left > 1 + 5 + 10 + 0 + 0 + 7", 1, 5), 0);
        PROBE.is("sum", holds("family + hour + heat + dirt + quarrel + left + 1 > 1 + 5 + 10 + 0 + 0 + 7", 1, 5), 1);
        PROBE.is("999", holds("hour < 999", 0, 23), 1);
        ClockShares x = under("fine 9 if hour > 4;fine 5 if family > 0;fine 3 if wished");
        PROBE.is("fine is asked of the thing's family", x.thing(0, 3), 6);
        PROBE.is("fine is asked of the thing's family", x.thing(1, 3), 13);
        Probe.feed(x, "hour 12");
        x.deed();
        PROBE.is("fine is asked in the hour now", x.thing(0, 3), 15);
        PROBE.is("fine is asked in the hour now", x.thing(1, 3), 8 + 9 + 5 + 3);
    }

    private static void depth() {
        PROBE.is("six not", holds("not not not not not not night", 0, 0), 1);
        PROBE.is("six brackets", holds("((((((night))))))", 0, 0), 1);
        PROBE.is("mixed", holds("not(not(not(night)))", 0, 0), 0);
        PROBE.is("side by side", holds("not night or (night) and (not (night) or not not wished) or (((night)))", 0, 0), 1);
        PROBE.lawFault("warm 1 if not not not not not not not night", 34);
        PROBE.lawFault("warm 1 if (((((((night)))))))", 16);
        PROBE.lawFault("warm 1 if not(not(not(not night", 22);
        PROBE.lawFault("warm 1 if not(not(not night", 27);
        PROBE.lawFault("warm 1 if not(not(not((", 22);
        PROBE.lawFault("warm 1 if not(not(not night))and", 32);
    }

    private static void replaced() {
        ClockShares x = under("warm 5;warm 6");
        x.dust();
        Probe.feed(x, "dust 1");
        PROBE.is("law in place of the one before", x.law(), 1);
        PROBE.is("the law before is gone", x.does(0, 0, 0), 2);
        PROBE.is("acts are forgotten", x.count(17), 0);
        x.dust();
        Probe.feed(x, "dust 2;dust");
        PROBE.fails("a wrong law", IllegalArgumentException.class, x::law);
        PROBE.is("fault", x.fault(), 11);
        PROBE.is("the law stays", x.does(0, 0, 1), 2);
        PROBE.is("acts stay", x.count(17), 1);
        PROBE.is("an empty law", x.law(), 0);
        PROBE.is("has no lines", x.count(3), 0);
        PROBE.is("fault of a right text", x.fault(), -1);
        PROBE.is("texts of the deed", x.count(2), 1);
        Probe.feed(x, "   ");
        PROBE.is("a law of blanks", x.law(), 0);
    }

    private static void faults() {
        StringBuilder twelve = new StringBuilder("warm 1");
        for (int i = 1; i < 12; i++) {
            twelve.append(";warm 1");
        }
        PROBE.is("12 lines", under(twelve.toString()).count(3), 12);
        PROBE.lawFault(twelve + ";warm 1", 84);
        PROBE.lawFault(twelve + "; x", 85);
        PROBE.lawFault(twelve + ";", 84);
        PROBE.lawFault("warm", 4);
        PROBE.lawFault("warm 21", 5);
        PROBE.lawFault("warm 0020", 5);
        PROBE.lawFault("tax 1", 0);
        PROBE.lawFault("cold 1", 0);
        PROBE.lawFault("warm 1;", 7);
        PROBE.lawFault("warm 1 night", 7);
        PROBE.lawFault("warm 1 if", 9);
        PROBE.lawFault("warm 1 if;", 9);
        PROBE.lawFault("warm 1 ifnight", 7);
        PROBE.lawFault("warm 1 if hour", 14);
        PROBE.lawFault("warm 1 if hour;", 14);
        PROBE.lawFault("warm 1 if hour <", 16);
        PROBE.lawFault("warm 1 if hour < night", 17);
        PROBE.lawFault("warm 1 if hour = 1", 15);
        PROBE.lawFault("warm 1 if hour < 1 < 2", 19);
        PROBE.lawFault("warm 1 if hour < 1 + ", 21);
        PROBE.lawFault("warm 1 if hour < 1000", 17);
        PROBE.lawFault("warm 1 if night night", 16);
        PROBE.lawFault("warm 1 if night and", 19);
        PROBE.lawFault("warm 1 if night or or", 19);
        PROBE.lawFault("warm 1 if (night", 16);
        PROBE.lawFault("warm 1 if (night;", 16);
        PROBE.lawFault("warm 1 if night)", 15);
        PROBE.lawFault("warm 1 if (hour) < 3", 15);
        PROBE.lawFault("warm 1 if ()", 11);
        PROBE.lawFault("warm 1 if not", 13);
        PROBE.lawFault("warm 1 if hours < 3", 10);
        PROBE.lawFault("warm 1 if purse < 3", 10);
        PROBE.lawFault("warm 1 if night + 1 < 3", 16);
        PROBE.lawFault("warm 1 if hour + night < 3", 17);
        PROBE.lawFault("warm 1 if + 1 < 3", 10);
        PROBE.lawFault("warm 1 if NIGHT", 10);
        PROBE.lawFault("warm 1 if night\u00e9", 15);
    }

    /** A text of all 400 bytes, of which nearly every byte is a step of its own. */
    private static void fullTape() {
        String ones = "1" + "+1".repeat(192);
        String right = "warm 9 if " + ones + ">192";
        PROBE.is("length", (right + " ").length(), 400);
        PROBE.is("193 is more than 192", under(right + " ").does(0, 0, 0), 11);
        PROBE.is("193 is not more than 193", under(right.replace("192", "193") + " ").does(0, 0, 0), 2);
        PROBE.lawFault(right + "+", 400);
        PROBE.lawFault(right + "(", 399);
        String deep = "((((((1<2 or 2<1 and 1<2) or 2<1 and 1<2) or 2<1 and 1<2) or 2<1 and 1<2) or 2<1 and 1<2) or 2<1 and 1<2)";
        PROBE.is("deep joins", holds(deep + " or 2<1 and 1<2", 0, 0), 1);
        String right6 = "2<1 or 1<2 and (2<1 or 1<2 and (2<1 or 1<2 and (2<1 or 1<2 and (2<1 or 1<2 and (2<1 or 1<2 and (2<1 or 1<2 and 2+3<3+4))))))";
        PROBE.is("joins that wait at all depths", holds(right6, 0, 0), 1);
        PROBE.is("joins that wait at all depths", holds(right6.replace("2+3<3+4", "2+3<3+1"), 0, 0), 0);
    }

    private static void whats() {
        ClockShares x = Probe.house(HOUSE);
        PROBE.is("without a law", x.does(1, 0, 0), 4);
        PROBE.fails("does of no family", IndexOutOfBoundsException.class, () -> x.does(2, 0, 9));
        PROBE.fails("does of no family", IndexOutOfBoundsException.class, () -> x.does(-1, 0, 0));
        PROBE.fails("does in no hour", IndexOutOfBoundsException.class, () -> x.does(0, 24, 0));
        PROBE.fails("does in no hour", IndexOutOfBoundsException.class, () -> x.does(0, -1, 9));
        PROBE.fails("does what", java.util.NoSuchElementException.class, () -> x.does(0, 0, 2));
        PROBE.fails("does what", java.util.NoSuchElementException.class, () -> x.does(0, 0, -1));
        PROBE.fails("no thing", IndexOutOfBoundsException.class, () -> x.thing(3, 9));
        PROBE.fails("no thing", IndexOutOfBoundsException.class, () -> x.thing(-1, 0));
        PROBE.fails("thing what", java.util.NoSuchElementException.class, () -> x.thing(2, 4));
        PROBE.fails("thing what", java.util.NoSuchElementException.class, () -> x.thing(2, -1));
        PROBE.is("thing's family", x.thing(1, 0), 1);
        PROBE.is("thing's bulk", x.thing(1, 1), 4);
        PROBE.is("thing is left", x.thing(1, 2), 1);
        PROBE.is("thing is taken along", x.thing(2, 2), 0);
    }
}
