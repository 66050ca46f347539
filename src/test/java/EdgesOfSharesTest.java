/** The boundary cases of what is asked: shares, rows, meetings, deals, worth, bids, dust that was seen, riches. */
final class EdgesOfSharesTest {
    private static final Probe PROBE = new Probe("EdgesOfSharesTest");
    private static final String F = "family purse 1 dust 0 stove 0";
    private static final int ALL = 0xFFFFFF;
    private static final int NONE = ClockShares.NONE;

    public static void main(String[] args) {
        share();
        longest();
        changes();
        met();
        glad();
        gaps();
        deal();
        swap();
        fewest();
        worth();
        part();
        corner();
        bids();
        who();
        rowsOfWho();
        common();
        lovers();
        lesson();
        widows();
        comes();
        rich();
        cramped();
        PROBE.finish();
    }

    /** Hours 0 to 23, one sign each: the family's number, or a dot for nobody; the same for one family's wishes. */
    private static ClockShares dealt(int families, String hours, String... wishes) {
        StringBuilder deed = new StringBuilder("price 10");
        for (int family = 0; family < families; family++) {
            deed.append(';').append(F);
        }
        ClockShares x = Probe.house(deed.toString());
        tellRows(x, hours);
        for (int family = 0; family < wishes.length; family++) {
            for (int from = wishes[family].indexOf('x'); from >= 0; from = wishes[family].indexOf('x', from)) {
                int behind = behindRow(wishes[family], from);
                Probe.feed(x, "wishes " + family + " " + from + " to " + (behind - 1));
                x.deed();
                from = behind;
            }
        }
        return x;
    }

    private static void tellRows(ClockShares x, String hours) {
        StringBuilder deed = new StringBuilder();
        int lines = 0;
        for (int from = 0; from < hours.length(); from = behindRow(hours, from)) {
            if (hours.charAt(from) != '.') {
                deed.append(lines % 14 == 0 ? "" : ";").append("hours ").append(hours.charAt(from)).append(' ').append(from).append(" to ").append(behindRow(hours, from) - 1);
                lines++;
            }
            if (lines > 0 && lines % 14 == 0) {
                Probe.feed(x, deed.toString());
                x.deed();
                deed.setLength(0);
                lines = 0;
            }
        }
        Probe.feed(x, deed.toString());
        x.deed();
    }

    private static int behindRow(String text, int from) {
        int behind = from + 1;
        while (behind < text.length() && text.charAt(behind) == text.charAt(from)) {
            behind++;
        }
        return behind;
    }

    private static void share() {
        PROBE.of("SHARE of a FAMILY: how many HOURS.");
        PROBE.is("none", dealt(1, "").family(0, 5), 0);
        PROBE.is("the first", dealt(1, "0").family(0, 5), 1);
        PROBE.is("the last", dealt(1, ".......................0").family(0, 5), 1);
        PROBE.is("all", dealt(1, "0".repeat(24)).family(0, 5), 24);
        PROBE.of("3 WISHES, 4 its HOURS (3, 4 as bits)");
        PROBE.is("all", dealt(1, "0".repeat(24)).family(0, 4), ALL);
        PROBE.is("the last", dealt(1, ".......................0").family(0, 4), 1 << 23);
        PROBE.is("none", dealt(1, "").family(0, 3), 0);
        PROBE.is("all", dealt(1, "", "x".repeat(24)).family(0, 3), ALL);
    }

    private static void longest() {
        PROBE.of("LONGEST of one: its longest row of HOURS one behind another, round the clock (24, if it HOLDS all).");
        PROBE.is("none", dealt(1, "").family(0, 6), 0);
        PROBE.is("one", dealt(1, "....0").family(0, 6), 1);
        PROBE.is("the last and the first", dealt(1, "0......................0").family(0, 6), 2);
        PROBE.is("round the clock", dealt(1, "000..0000..........00000").family(0, 6), 8);
        PROBE.is("not round the clock", dealt(1, "00....00000...........00").family(0, 6), 5);
        PROBE.is("all but the last", dealt(1, "00000000000000000000000.").family(0, 6), 23);
        PROBE.is("all but the first", dealt(1, ".00000000000000000000000").family(0, 6), 23);
        PROBE.is("all but one in the midst", dealt(2, "000000000001000000000000").family(0, 6), 23);
        PROBE.is("all", dealt(1, "0".repeat(24)).family(0, 6), 24);
        PROBE.is("every other one", dealt(2, "01".repeat(12)).family(1, 6), 1);
    }

    private static void changes() {
        PROBE.of("CHANGES: in how many HOURS of a day somebody else (or nobody) HOLDS the next one.");
        PROBE.is("nobody has any", dealt(1, "").changes(), 0);
        PROBE.is("one has all", dealt(1, "0".repeat(24)).changes(), 0);
        PROBE.is("one has one", dealt(1, "0").changes(), 2);
        PROBE.is("one has the last one", dealt(1, ".......................0").changes(), 2);
        PROBE.is("round the clock", dealt(1, "0......................0").changes(), 2);
        PROBE.is("every hour", dealt(2, "01".repeat(12)).changes(), 24);
        PROBE.is("every hour, with nobody", dealt(1, "0.".repeat(12)).changes(), 24);
        PROBE.is("three", dealt(3, "000000001111111122222222").changes(), 3);
    }

    private static void met() {
        PROBE.of("MET of two FAMILIES: HOURS of the one behind which the other one comes, either way, as bits.");
        ClockShares x = dealt(3, "01......................");
        PROBE.is("one way", x.met(0, 1), 1);
        PROBE.is("the other way", x.met(1, 0), 1);
        PROBE.is("with one that has no hour", x.met(0, 2), 0);
        ClockShares y = dealt(2, "0......................1");
        PROBE.is("round the clock", y.met(0, 1), 1 << 23);
        PROBE.is("round the clock", y.met(1, 0), 1 << 23);
        PROBE.is("every hour", dealt(2, "01".repeat(12)).met(0, 1), ALL);
        PROBE.is("nobody between", dealt(2, "0.1.....................").met(0, 1), 0);
        PROBE.is("a third one between", dealt(3, "021.....................").met(0, 1), 0);
        PROBE.of("MET, as bits. IllegalArgumentException: both are one.");
        PROBE.fails("both are one", IllegalArgumentException.class, () -> x.met(2, 2));
    }

    private static void glad() {
        PROBE.of("GLAD of one: how many of its HOURS are among its WISHES.");
        PROBE.is("no hour", dealt(1, "", "x".repeat(24)).family(0, 7), 0);
        PROBE.is("no wish", dealt(1, "0".repeat(24)).family(0, 7), 0);
        PROBE.is("all", dealt(1, "0".repeat(24), "x".repeat(24)).family(0, 7), 24);
        PROBE.is("another one's", dealt(2, "0011", "..xx", "xx..").family(0, 7), 0);
        PROBE.is("the first and the last", dealt(2, "0......................0", "x......................x").family(0, 7), 2);
    }

    private static void gaps() {
        PROBE.of("GAPS: HOURS that nobody HOLDS, as bits.");
        PROBE.is("all", new ClockShares().gaps(), ALL);
        PROBE.is("none", dealt(1, "0".repeat(24)).gaps(), 0);
        PROBE.is("the last", dealt(1, "0".repeat(23)).gaps(), 1 << 23);
        PROBE.is("the first", dealt(6, ".01234500000000000000000").gaps(), 1);
    }

    private static void deal() {
        PROBE.of("each FAMILY as many as its SHARE now at most, each HOUR to one that WISHES it: how many at most could be dealt so");
        PROBE.is("no families", new ClockShares().deal(), 0);
        PROBE.is("no share", dealt(1, "", "x".repeat(24)).deal(), 0);
        PROBE.is("no wish", dealt(1, "0".repeat(24)).deal(), 0);
        PROBE.is("all", dealt(1, "0".repeat(24), "x".repeat(24)).deal(), 24);
        PROBE.is("as many as its share", dealt(1, "00", "..........xxxx").deal(), 2);
        PROBE.is("as many as it wishes", dealt(1, "000000", "..........xxxx").deal(), 4);
        PROBE.is("an hour to one alone", dealt(2, "0011", "xx", "xx").deal(), 2);
        PROBE.is("hours of nobody are dealt, too", dealt(1, "0", ".......................x").deal(), 1);
        PROBE.is("each gives way to the next", dealt(6, "012345", "xx", ".xx", "..xx", "...xx", "....xx", "x....x").deal(), 6);
        PROBE.is("six that all wish five", dealt(6, "012345", "xxxxx", "xxxxx", "xxxxx", "xxxxx", "xxxxx", "xxxxx").deal(), 5);
        PROBE.is("who wishes little comes first", dealt(2, "000000000000111111111111", "x".repeat(24), "xxxxxxxxxxxx").deal(), 24);
    }

    private static void swap() {
        PROBE.of("by swapping which GLAD of neither is less and GLAD of both together is the most more");
        PROBE.is("both by one", dealt(2, "01", ".x", "x").trade(), 1);
        PROBE.is("one by one", dealt(2, "01", ".x").trade(), 1);
        PROBE.is("one by one, the other one less", dealt(2, "01", ".x", ".x").trade(), NONE);
        PROBE.is("one by one, the other one as ahead", dealt(2, "01", ".x", "xx").trade(), 1);
        PROBE.is("neither", dealt(2, "01", "x", ".x").trade(), NONE);
        PROBE.is("neither, who wish both", dealt(2, "01", "xx", "xx").trade(), NONE);
        PROBE.is("neither, who wish none", dealt(2, "01").trade(), NONE);
        PROBE.of("24 times the one and the other one (the lesser first; of several the least; none, if it is not more)");
        PROBE.is("the last two", dealt(2, "......................01", ".......................x").trade(), 24 * 22 + 23);
        PROBE.is("the first and the last", dealt(2, "1......................0", "x").trade(), 23);
        PROBE.is("of several the least", dealt(2, "0011", "..xx").trade(), 2);
        PROBE.is("the most more, though not the least", dealt(2, "0011", "..xx", ".x").trade(), 24 + 2);
        PROBE.is("the first hour is no hour behind the last one", dealt(2, "1...0", "", "x...x").trade(), NONE);
        PROBE.of("SWAP; NONE.");
        PROBE.is("of nobody", dealt(1, "0", ".x").trade(), NONE);
        PROBE.is("of one", dealt(1, "00", "..x").trade(), NONE);
        PROBE.is("no families", new ClockShares().trade(), NONE);
        PROBE.is("six families", dealt(6, "012345", "", "", "", "", ".....x", "....x").trade(), 24 * 4 + 5);
    }

    private static void fewest() {
        PROBE.of("FEWEST: how many CHANGES there are at least, if HOURS are dealt anew, each FAMILY its SHARE, nobody the rest.");
        PROBE.is("nobody has all", dealt(3, "").fewest(), 0);
        PROBE.is("one has all", dealt(2, "0".repeat(24)).fewest(), 0);
        PROBE.is("one and nobody", dealt(1, "0.".repeat(12)).fewest(), 2);
        PROBE.is("two have all", dealt(2, "01".repeat(12)).fewest(), 2);
        PROBE.is("two and nobody", dealt(2, "01.".repeat(8)).fewest(), 3);
        PROBE.is("six have all", dealt(6, "012345".repeat(4)).fewest(), 6);
        PROBE.is("six and nobody", dealt(6, "012345".repeat(3) + "01234").fewest(), 7);
        PROBE.is("no families", new ClockShares().fewest(), 0);
    }

    private static void worth() {
        PROBE.of("of all HOURS that they HOLD the sum of 3 for each one by night, 2 for each other one that some of them WISHES, 1 for each of the others");
        ClockShares all = dealt(2, "0".repeat(24), "", "x".repeat(24));
        PROBE.is("8 by night, 16 by day", all.worth(1), 24 + 16);
        PROBE.is("no hours", all.worth(2), 0);
        PROBE.is("wished by another one of them", all.worth(3), 24 + 32);
        int[][] edges = {{5, 3}, {6, 1}, {21, 1}, {22, 3}, {0, 3}, {23, 3}};
        for (int[] edge : edges) {
            ClockShares x = dealt(1, ".".repeat(edge[0]) + "0");
            PROBE.is("hour " + edge[0], x.worth(1), edge[1]);
            ClockShares wished = dealt(1, ".".repeat(edge[0]) + "0", "x".repeat(24));
            PROBE.is("hour " + edge[0] + " if it is wished", wished.worth(1), edge[1] == 3 ? 3 : 2);
        }
        PROBE.of("Sets are bits; of none they count for nothing.");
        PROBE.is("of none", all.worth(0), 0);
        PROBE.is("bits of no family", all.worth(4), 0);
        PROBE.is("bits of no family", all.worth(~3), 0);
        PROBE.is("bits of no family, too", all.worth(~2), 40);
        PROBE.is("all bits", all.worth(-1), 56);
        PROBE.is("the highest bit", all.worth(Integer.MIN_VALUE), 0);
        PROBE.is("a house of nobody", new ClockShares().worth(-1), 0);
        ClockShares six = dealt(6, "......012345");
        PROBE.is("the sixth", six.worth(32), 1);
        PROBE.is("a seventh", six.worth(64), 0);
        PROBE.is("all six", six.worth(63), 6);
    }

    private static void part() {
        PROBE.of("PART of a FAMILY of a told sum (0 to 999)");
        ClockShares x = dealt(2, "......01", "......x");
        PROBE.is("2 of 3 of 999", x.part(0, 999), 66600);
        PROBE.is("1 of 3 of 999", x.part(1, 999), 33300);
        PROBE.is("of 0", x.part(0, 0), 0);
        PROBE.of("PART. IllegalArgumentException: the sum is none.");
        for (int sum : new int[] {-1, 1000, Integer.MIN_VALUE, Integer.MAX_VALUE}) {
            PROBE.fails("sum " + sum, IllegalArgumentException.class, () -> x.part(0, sum));
        }
        PROBE.of("in hundredths, rounded down (0, if that is 0)");
        PROBE.is("66.66", x.part(0, 1), 66);
        PROBE.is("33.33", x.part(1, 1), 33);
        PROBE.is("nobody has any", dealt(2, "").part(1, 999), 0);
        PROBE.is("one has the least", dealt(2, "......0").part(0, 999), 99900);
        PROBE.is("one without hours and wishes", dealt(2, "0").part(1, 999), 0);
        PROBE.is("one has all", dealt(1, "0".repeat(24)).part(0, 999), 99900);
        PROBE.of("by how much WORTH grows by it, if all FAMILIES come one behind another (from none on), on the average of all orders of them, alike");
        ClockShares wish = dealt(2, "......0", "", "......x");
        PROBE.is("1 and a half of 2", wish.part(0, 100), 7500);
        PROBE.is("a half of 2", wish.part(1, 100), 2500);
        ClockShares three = dealt(3, "......0", "", "......x", "......x");
        PROBE.is("1 and two thirds of 2", three.part(0, 100), 8333);
        PROBE.is("a sixth of 2", three.part(1, 100), 833);
        PROBE.is("a sixth of 2", three.part(2, 100), 833);
        String wishes = "......x";
        ClockShares six = dealt(6, "......0", "", wishes, wishes, wishes, wishes, wishes);
        PROBE.is("1 and five sixths of 2", six.part(0, 999), 91575);
        PROBE.is("a thirtieth of 2", six.part(5, 999), 1665);
    }

    private static void corner() {
        PROBE.of("CORNER of a FAMILY: the fewest HOURS it must buy, so that no other FAMILY has a row of two HOURS (of its own) any more");
        PROBE.is("no hours", dealt(1, "").corner(0), 0);
        PROBE.is("its own alone", dealt(1, "0".repeat(24)).corner(0), 0);
        PROBE.is("another one has all", dealt(2, "0".repeat(24)).corner(1), 12);
        PROBE.is("another one has 23", dealt(2, "0".repeat(23)).corner(1), 11);
        PROBE.is("another one has 22 round the clock", dealt(2, "00000000000..00000000000").corner(1), 11);
        PROBE.is("a row of one", dealt(2, "0").corner(1), 0);
        PROBE.is("a row of two", dealt(2, "00").corner(1), 1);
        PROBE.is("a row of two round the clock", dealt(2, "0......................0").corner(1), 1);
        PROBE.is("a row of three", dealt(2, "000").corner(1), 1);
        PROBE.is("a row of four", dealt(2, "0000").corner(1), 2);
        PROBE.of("each HOUR may be bought from whomever has it");
        PROBE.is("rows of two families side by side", dealt(3, "0011").corner(2), 2);
        PROBE.is("hours of two families by turns", dealt(3, "01".repeat(12)).corner(2), 0);
        PROBE.is("a row of nobody", dealt(2, "0..0....").corner(1), 0);
        PROBE.is("two rows of one family", dealt(2, "00.000").corner(1), 2);
    }

    private static ClockShares bidders(int price, String... wishes) {
        ClockShares x = dealt(3, "", wishes);
        Probe.feed(x, "price " + price);
        x.deed();
        return x;
    }

    private static void bids() {
        PROBE.of("each bids PRICE (0), or twice that (1), unseen; the higher bid has it, of like ones nobody");
        int[][] rows = {{0, 15, 15, 15, 15}, {1, 14, 14, 14, 14}, {7, 14, 14, 14, 14}, {8, 14, 12, 10, 9}, {14, 14, 12, 10, 9}, {15, 15, 13, 11, 9},
            {16, 9, 9, 9, 9}, {99, 9, 9, 9, 9}};
        PROBE.of("who has it has 30, if it is among its WISHES, else 15, less the bid; nobody else pays: choices (2 times that of the first one and that of the second one) from which neither would have more by its other one alone, as bits.");
        for (int[] row : rows) {
            ClockShares x = bidders(row[0], "x", "x");
            PROBE.is("both wish it at " + row[0], x.bids(0, 1, 0), row[1]);
            PROBE.is("the first wishes it at " + row[0], x.bids(0, 2, 0), row[2]);
            PROBE.is("the second wishes it at " + row[0], x.bids(2, 0, 0), row[3]);
            PROBE.is("neither wishes it at " + row[0], x.bids(0, 1, 1), row[4]);
        }
        PROBE.of("BIDS, as bits. IllegalArgumentException: both are one.");
        PROBE.fails("both are one", IllegalArgumentException.class, () -> bidders(1).bids(1, 1, 23));
    }

    private static int who(ClockShares x, boolean rows, int... risings) {
        byte[] bytes = new byte[risings.length];
        for (int i = 0; i < bytes.length; i++) {
            bytes[i] = (byte) risings[i];
        }
        Probe.feed(x, bytes);
        return x.who(rows);
    }

    private static ClockShares dusters(int... dusts) {
        StringBuilder deed = new StringBuilder("cold 1");
        for (int dust : dusts) {
            deed.append(";family purse 1 dust ").append(dust).append(" stove 0");
        }
        return Probe.house(deed.toString());
    }

    private static int[] times(int rising, int times) {
        int[] risings = new int[times];
        java.util.Arrays.fill(risings, rising);
        return risings;
    }

    private static void who() {
        PROBE.of("told are risings of DIRT (0 to 9) in some HOURS, unknown which (DUST alone, no LAW)");
        ClockShares x = dusters(0, 9, 0, 5);
        Probe.law(x, "dust 1");
        PROBE.is("the least", who(x, false, 0), 0b0101);
        PROBE.is("the most", who(x, false, 9), 0b0010);
        PROBE.is("none makes it", who(x, false, 1), 0);
        PROBE.is("two that differ", who(x, false, 0, 9), 0);
        PROBE.fails("10", IllegalArgumentException.class, () -> who(x, false, 10));
        PROBE.fails("255", IllegalArgumentException.class, () -> who(x, false, 255));
        PROBE.of("IllegalArgumentException: the TAPE is not that (none may be told: all, 1).");
        PROBE.is("none is told", who(x, false), 0b1111);
        PROBE.is("none is told", who(x, true), 1);
        PROBE.is("none is told to a house of nobody", new ClockShares().who(false), 0);
        PROBE.is("none is told to a house of nobody", new ClockShares().who(true), 1);
        PROBE.is("one is told to a house of nobody", who(new ClockShares(), true, 0), 0);
        PROBE.of("Uses the TAPE up: WHO (a byte for each rising, 0 to 9; at most 20), as bits (rows false), or ROWS.");
        PROBE.is("20", who(x, false, times(0, 20)), 0b0101);
        PROBE.is("the tape is used up", Snapshot.tapeLength(x), 0);
        PROBE.fails("21", IllegalArgumentException.class, () -> who(x, false, times(0, 21)));
        PROBE.is("the tape is used up", Snapshot.tapeLength(x), 0);
        PROBE.fails("the 20th is none", IllegalArgumentException.class, () -> who(x, false, 0, 0, 0, 0, 0, 0, 0, 0, 0, 0, 0, 0, 0, 0, 0, 0, 0, 0, 0, 10));
    }

    private static void rowsOfWho() {
        PROBE.of("ROWS: how many rows of FAMILIES (one for each told rising, any more often) could have been IN one behind another (9999, if more).");
        PROBE.is("one family, twenty times", who(dusters(4), true, times(4, 20)), 1);
        PROBE.is("2 to the 13", who(dusters(4, 4), true, times(4, 13)), 8192);
        PROBE.is("2 to the 14", who(dusters(4, 4), true, times(4, 14)), 9999);
        PROBE.is("2 to the 20", who(dusters(4, 4), true, times(4, 20)), 9999);
        PROBE.is("6 to the 5", who(dusters(4, 4, 4, 4, 4, 4), true, times(4, 5)), 7776);
        PROBE.is("6 to the 6", who(dusters(4, 4, 4, 4, 4, 4), true, times(4, 6)), 9999);
        PROBE.is("6 to the 20", who(dusters(4, 4, 4, 4, 4, 4), true, times(4, 20)), 9999);
        PROBE.is("5 to the 5 by 3", who(dusters(4, 4, 4, 4, 4), true, 4, 4, 4, 4, 4), 3125);
        PROBE.is("4 to the 19 and one that none makes", who(dusters(4, 4, 4, 4), true, 4, 4, 4, 4, 4, 4, 4, 4, 4, 4, 4, 4, 4, 4, 4, 4, 4, 4, 4, 5), 0);
        PROBE.is("3 and 2 by turns", who(dusters(1, 1, 1, 2, 2), true, 1, 2, 1, 2), 36);
    }

    private static void common() {
        PROBE.of("COMMON: the DUST (0 to 9) that the most FAMILIES make (of several the least).");
        PROBE.is("the most", dusters(9, 9, 0).common(), 9);
        PROBE.is("the least", dusters(0, 0, 9).common(), 0);
        PROBE.is("of several", dusters(9, 3, 9, 3, 7).common(), 3);
        PROBE.is("one", dusters(9).common(), 9);
        PROBE.is("all differ", dusters(8, 7, 6, 5, 4, 9).common(), 4);
        for (int dust = 0; dust <= 9; dust++) {
            PROBE.is("two of " + dust, dusters(dust, 9 - dust, dust).common(), dust);
        }
        PROBE.of("COMMON (0 without FAMILIES).");
        PROBE.is("none", new ClockShares().common(), 0);
    }

    private static void lovers() {
        PROBE.of("LOVERS: pairs of FAMILIES that MEET (either way) at least twice a day: how many.");
        PROBE.is("once", dealt(2, "01").lovers(), 0);
        PROBE.is("twice", dealt(2, "010").lovers(), 1);
        PROBE.is("twice, the other way", dealt(2, "101").lovers(), 1);
        PROBE.is("twice, the same way", dealt(2, "01.01").lovers(), 1);
        PROBE.is("twice, round the clock", dealt(2, "000000000000111111111111").lovers(), 1);
PROBE.is("six that meet by twos", dealt(6, "010203040512131415232425").lovers(), 12);
        PROBE.is("none of one", dealt(1, "0".repeat(24)).lovers(), 0);
        PROBE.is("no families", new ClockShares().lovers(), 0);
    }

    private static void lesson() {
        PROBE.of("LESSON of N HOURS (1 to 24): the least HOUR from which on so many, one behind another, round the clock, are HELD by one FAMILY and among its WISHES; none.");
        ClockShares all = dealt(1, "0".repeat(24), "x".repeat(24));
        PROBE.is("the least", all.lesson(1), 0);
        PROBE.is("the most", all.lesson(24), 0);
        ClockShares most = dealt(1, "0".repeat(24), "x".repeat(23));
        PROBE.is("23 of 23", most.lesson(23), 0);
        PROBE.is("24 of 23", most.lesson(24), NONE);
        ClockShares round = dealt(1, "0".repeat(24), "xx....................xx");
        PROBE.is("1", round.lesson(1), 0);
        PROBE.is("2", round.lesson(2), 0);
        PROBE.is("3, round the clock", round.lesson(3), 22);
        PROBE.is("4, round the clock", round.lesson(4), 22);
        PROBE.is("5", round.lesson(5), NONE);
        PROBE.is("of one family", dealt(2, "01", "xx", "xx").lesson(2), NONE);
        PROBE.is("of any family", dealt(2, "0.11", "xxxx", "xxxx").lesson(2), 2);
        PROBE.is("of any family", dealt(2, "00.1", "xxxx", "xxxx").lesson(2), 0);
        PROBE.is("the last of six families", dealt(6, "01234500000000000000555", "", "", "", "", "", "x".repeat(24)).lesson(3), 20);
        PROBE.is("among its own wishes", dealt(2, "01", ".x", "x").lesson(1), NONE);
        PROBE.is("the last hour", dealt(1, ".......................0", "x".repeat(24)).lesson(1), 23);
        PROBE.is("no families", new ClockShares().lesson(1), NONE);
        PROBE.of("LESSON; NONE. IllegalArgumentException: N is none.");
        for (int n : new int[] {0, 25, -1, Integer.MIN_VALUE, Integer.MAX_VALUE}) {
            PROBE.fails("lesson(" + n + ")", IllegalArgumentException.class, () -> all.lesson(n));
        }
    }

    private static void widows() {
        PROBE.of("WIDOWS: FAMILIES with one HOUR alone, as bits.");
        PROBE.is("none, one and two hours", dealt(3, "122").widows(), 0b010);
        PROBE.is("two hours apart", dealt(1, "0.0").widows(), 0);
        PROBE.is("six", dealt(6, "012345").widows(), 0b111111);
        PROBE.is("no families", new ClockShares().widows(), 0);
    }

    private static void comes() {
        PROBE.of("COMES of a FAMILY: in how many HOURS (0 to 23) it is IN next (0: now); none.");
        ClockShares x = dealt(4, "1....0.................2");
        int[][] rows = {{0, 5, 0, 23}, {1, 4, 23, 22}, {5, 0, 19, 18}, {6, 23, 18, 17}, {23, 6, 1, 0}};
        for (int[] row : rows) {
            Probe.feed(x, "hour " + row[0]);
            x.deed();
            for (int family = 0; family < 3; family++) {
                PROBE.is("family " + family + " at " + row[0], x.family(family, 8), row[family + 1]);
            }
            PROBE.of("8 COMES (NONE)");
            PROBE.is("without hours at " + row[0], x.family(3, 8), NONE);
        }
    }

    private static void rich() {
        PROBE.of("RICH: the FAMILY of the most PURSE and PRICE for each HOUR (of several the least; none).");
        String purses = "family purse 99 dust 0 stove 0;family purse 0 dust 0 stove 0 hours 0 to 0;price ";
        PROBE.is("98 are less", Probe.house(purses + "98").rich(), 0);
        PROBE.is("99 are as much", Probe.house(purses + "99").rich(), 0);
        PROBE.is("more by one hour more", Probe.house(purses + "50;hours 1 1 to 1").rich(), 1);
        String turned = "family purse 0 dust 0 stove 0 hours 0 to 0;family purse 99 dust 0 stove 0;price ";
        PROBE.is("98 are less", Probe.house(turned + "98").rich(), 1);
        PROBE.is("99 are as much", Probe.house(turned + "99").rich(), 0);
        PROBE.is("nothing at all", Probe.house("family purse 0 dust 0 stove 0").rich(), 0);
        PROBE.is("the most there can be", Probe.house("family purse 998 dust 0 stove 0;family purse 999 dust 0 stove 0;hours 0 0 to 23;price 0").rich(), 1);
        PROBE.of("RICH; NONE.");
        PROBE.is("none", new ClockShares().rich(), NONE);
    }

    private static void cramped() {
        PROBE.of("CRAMPED: BULK of all THINGS LEFT that are not of the one IN, together.");
        PROBE.is("no things", new ClockShares().cramped(), 0);
        String things = "thing 0 bulk 9 left;thing 1 bulk 9 left;thing 1 bulk 9;thing 0 bulk 1 left;thing 1 bulk 1 left";
        ClockShares x = dealt(3, "0.12");
        Probe.feed(x, things);
        x.deed();
        PROBE.is("the second one's", x.cramped(), 10);
        x.free(0);
        PROBE.is("nobody is in: all", x.cramped(), 20);
        Probe.feed(x, "hour 3");
        x.deed();
        PROBE.is("one without things is in: all", x.cramped(), 20);
        Probe.feed(x, "hour 2");
        x.deed();
        PROBE.is("the first one's", x.cramped(), 10);
    }
}
