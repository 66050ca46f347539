/** The boundary cases of the texts: the tape, numbers, words, blanks, depth, what is too many, the first wrong byte. */
final class EdgesOfTextsTest {
    private static final Probe PROBE = new Probe("EdgesOfTextsTest");
    private static final String FAMILY = "family purse 1 dust 1 stove 1";
    private static final String TWO = FAMILY + ";" + FAMILY;

    public static void main(String[] args) {
        numbersOfTheDeed();
        numbersOfTheLaw();
        wordsOfTheDeed();
        wordsOfTheLaw();
        kindsOfWrong();
        wordsGoOn();
        blanks();
        noLine();
        depth();
        linesTooMany();
        familiesTooMany();
        thingsTooMany();
        textsTooMany();
        aFamilyByThen();
        nothingStays();
        fullTape();
        wholeTape();
        PROBE.finish();
    }

    /** The text is right as another one of a house of two families (a deed), or as a law. */
    private static void right(String text, boolean isDeed) {
        ClockShares x = Probe.house(TWO);
        Probe.feed(x, text);
        int got = isDeed ? x.deed() : x.law();
        PROBE.is("lines or texts by " + text, got, isDeed ? 2 : text.split(";").length);
        PROBE.is("fault of " + text, x.fault(), ClockShares.NONE);
    }

    private static void wrong(String text, boolean isDeed, int due) {
        ClockShares x = Probe.house(TWO);
        String before = Snapshot.state(x);
        Probe.feed(x, text);
        PROBE.fails("text " + text, IllegalArgumentException.class, isDeed ? x::deed : x::law);
        PROBE.is("fault of " + text, x.fault(), due);
        PROBE.is("the tape behind " + text, Snapshot.tapeLength(x), 0);
        PROBE.is("all behind " + text, Snapshot.state(x), before);
    }

    /** A number's least and most, the ones next to these, its digits, and what else may stand in its place. */
    private static void number(String ahead, int least, int most, String behind, boolean isDeed) {
        int at = ahead.length();
        for (int value : new int[] {least, most}) {
            right(ahead + value + behind, isDeed);
            right(ahead + String.format("%03d", value) + behind, isDeed);
            wrong(ahead + String.format("%04d", value) + behind, isDeed, at);
        }
        right(ahead + String.format("%02d", least) + behind, isDeed);
        wrong(ahead + (most + 1) + behind, isDeed, at);
        if (least > 0) {
            wrong(ahead + (least - 1) + behind, isDeed, at);
        }
        for (String none : new String[] {"1000", "4294967296", "0000000000000000000001", "-1", "+1", "x", "/", ":", ";1"}) {
            wrong(ahead + none + behind, isDeed, at);
        }
        wrong(ahead, isDeed, at);
        wrong(ahead + behind, isDeed, behind.isEmpty() ? at : at + 1);
        if (!behind.isEmpty()) {
            wrong(ahead + least, isDeed, at + String.valueOf(least).length());
        }
    }

    private static void numbersOfTheDeed() {
        PROBE.of("PURSE 0 to 999.) Numbers are of 1 to 3 digits.");
        number("family purse ", 0, 999, " dust 1 stove 1", true);
        PROBE.of("DUST 0 to 9 (what its children make in an HOUR), STOVE 0 to 9 (how it warms in an HOUR)");
        number("family purse 1 dust ", 0, 9, " stove 1", true);
        number("family purse 1 dust 1 stove ", 0, 9, "", true);
        PROBE.of("HOURS 0 to 23 of a day");
        number(FAMILY + " hours ", 0, 23, " to 5", true);
        number(FAMILY + " hours 5 to ", 0, 23, "", true);
        number(FAMILY + " wishes ", 0, 23, " to 5", true);
        number(FAMILY + " wishes 5 to ", 0, 23, "", true);
        number("hours 0 ", 0, 23, " to 5", true);
        number("hours 0 5 to ", 0, 23, "", true);
        number("free ", 0, 23, " to 5", true);
        number("free 5 to ", 0, 23, "", true);
        number("wishes 0 ", 0, 23, " to 5", true);
        number("wishes 0 5 to ", 0, 23, "", true);
        number("hour ", 0, 23, "", true);
        PROBE.of("(F: a FAMILY that there is by then;");
        number("hours ", 0, 1, " 3 to 4", true);
        number("wishes ", 0, 1, " 3 to 4", true);
        number("thing ", 0, 1, " bulk 3", true);
        PROBE.of("of a FAMILY, BULK 1 to 9");
        number("thing 0 bulk ", 1, 9, "", true);
        PROBE.of("COLD 0 to 9 (1 at first)");
        number("cold ", 0, 9, "", true);
        PROBE.of("FINE 0 to 20 (2 at first)");
        number("fine ", 0, 20, "", true);
        PROBE.of("PRICE 0 to 99 (10 at first)");
        number("price ", 0, 99, "", true);
        PROBE.of("GUESTS 0 to 100 (0 at first)");
        number("guests ", 0, 100, "", true);
    }

    private static void numbersOfTheLaw() {
        PROBE.of("All numbers are of 1 to 3 digits (N 0 to 20).");
        number("warm ", 0, 20, "", false);
        number("dust ", 0, 20, "", false);
        number("fine ", 0, 20, "", false);
        number("warm 1 if ", 0, 999, " < 5", false);
        number("warm 1 if 5 > ", 0, 999, "", false);
        number("warm 1 if hour + ", 0, 999, " > 5", false);
        number("warm 1 if hour < left + ", 0, 999, "", false);
    }

    /** A text of things with blanks between; behind a bar it may end. Each thing in turn is the last or is spoilt. */
    private static void walk(String text, boolean isDeed) {
        StringBuilder ahead = new StringBuilder();
        for (String thing : text.split(" ")) {
            int at = ahead.length();
            for (String none : new String[] {"zz", "_", "?", "=", "familys", "}", "\u007f", "\u0080", "\0"}) {
                wrong(ahead + none, isDeed, at);
            }
            if (isDeed && Character.isLetter(thing.charAt(0))) {
                wrong(ahead + "1 to 2", true, at);
            }
            boolean mayEnd = thing.endsWith("|");
            String bare = mayEnd ? thing.substring(0, thing.length() - 1) : thing;
            ahead.append(bare);
            if (mayEnd) {
                right(ahead.toString(), isDeed);
                right(ahead + "  ", isDeed);
                wrong(ahead + " ;", isDeed, at + bare.length() + 2);
            } else {
                wrong(ahead.toString(), isDeed, at + bare.length());
                wrong(ahead + "  ", isDeed, at + bare.length() + 2);
                wrong(ahead + " ;", isDeed, at + bare.length() + 1);
            }
            ahead.append(' ');
        }
    }

    private static void wordsOfTheDeed() {
        PROBE.of("The first wrong byte: the begin of the first thing that cannot stand there");
        walk("family purse 1 dust 1 stove 1| hours 2 to 3| wishes 4 to 5|", true);
        walk("family purse 1 dust 1 stove 1| wishes 4 to 5|", true);
        walk("hours 0 22 to 3|", true);
        walk("free 22 to 3|", true);
        walk("thing 1 bulk 9| left|", true);
        walk("cold 1| ; fine 2| ; price 3| ; guests 4| ; hour 5|", true);
        walk("wishes 1 22 to 3|", true);
        PROBE.of("[ hours N to N ] [ wishes N to N ]");
        wrong(FAMILY + " wishes 1 to 2 hours 1 to 2", true, FAMILY.length() + 15);
        wrong(FAMILY + " hours 1 to 2 hours 1 to 2", true, FAMILY.length() + 14);
        wrong(FAMILY + " wishes 1 to 2 wishes 1 to 2", true, FAMILY.length() + 15);
        wrong("thing 0 bulk 1 left left", true, 20);
        for (String word : new String[] {"warm", "dust", "stove", "purse", "bulk", "left", "to", "if", "night", "f", "n", "line"}) {
            wrong(word + " 1", true, 0);
        }
    }

    private static void wordsOfTheLaw() {
        PROBE.of("or the text's length, if more must come.");
        walk("warm 1| if night| and wished| or not hour < 3| ; dust 2|", false);
        walk("fine 1| if ( ( night or family + 3 + heat > dirt + quarrel + left ) and not ( wished ) )| or 1 > 2|", false);
        walk("dust 1| if left < 5| and not not ( night )| or quarrel > 3|", false);
        PROBE.of("warm N [ if C ] | dust N [ if C ] | fine N [ if C ].");
        for (String word : new String[] {"cold", "family", "hours", "free", "thing", "price", "guests", "hour", "wishes", "if", "night", "n"}) {
            wrong(word + " 1", false, 0);
        }
        PROBE.of("PART: NUMBER | family | hour | heat | dirt | quarrel | left.");
        for (String word : new String[] {"cold", "fine", "price", "guests", "dust", "warm", "day", "purse", "if", "and", "or", "f", "c"}) {
            wrong("warm 1 if " + word + " < 1", false, 10);
            wrong("warm 1 if 1 < " + word, false, 14);
            wrong("warm 1 if 1 + " + word + " > 1", false, 14);
        }
        wrong("1", false, 0);
        wrong("warm 1 1 night", false, 7);
        wrong("warm 1 night", false, 7);
        wrong("warm 1 if night 1", false, 16);
        wrong("warm 1 if night < 1", false, 16);
        wrong("warm 1 if 1 < 2 > 1", false, 16);
        wrong("warm 1 if 1 < = 2", false, 14);
        wrong("warm 1 if 1 - 1 < 2", false, 12);
        wrong("warm 1 if (1) < 2", false, 12);
        wrong("warm 1 if (1 < 2", false, 16);
        wrong("warm 1 if 1 < 2)", false, 15);
        wrong("warm 1 if ()", false, 11);
        wrong("warm 1 if night; if night", false, 17);
        wrong("warm 1 if night if night", false, 16);
    }

    private static void kindsOfWrong() {
        PROBE.of("(a number of more digits, or out of its bounds, or that tells none that can be; a word that is none;");
        wrong("cold 1; cold 0009;zz", true, 13);
        wrong("cold 1; cold 10;zz", true, 13);
        wrong("cold 1; hours 2 1 to 3;zz", true, 14);
        wrong("cold 1; colds 1;zz", true, 8);
        PROBE.of("THE LAW: how many LINES. IllegalArgumentException: the text is wrong.");
        wrong("warm 1; warm 0009;zz", false, 13);
        wrong("warm 1; warm 21;zz", false, 13);
        wrong("warm 1; warms 1;zz", false, 8);
        wrong("warm 1 if hour < 0999; warm 21", false, 17);
    }

    private static void wordsGoOn() {
        PROBE.of("Words are as long as a to z go on");
        right("cold1;hour2;free3to4;hours0 5to6;wishes1 7to8", true);
        right("thing0bulk9left", true);
        right("family purse1dust2stove3hours4to5wishes6to7", true);
        right("warm1if(night)and(wished)or not(hour+3<heat)", false);
        wrong("coldz1", true, 0);
        wrong("acold 1", true, 0);
        wrong("col d 1", true, 0);
        wrong("cold{1", true, 4);
        wrong("cold`1", true, 4);
        wrong("Cold 1", true, 0);
        wrong("colD 1", true, 0);
        wrong("hours0 1to2left", true, 11);
        wrong("warm 1 ifnight", false, 7);
        wrong("warm 1 if notnight", false, 10);
        wrong("warm 1 if nightand wished", false, 10);
        wrong("warm 1 if night andwished", false, 16);
        wrong("warm 1 if night an wished", false, 16);
        wrong("warm 1 if hour 1 < 2", false, 15);
        wrong("warm 1 if hour < 1 2", false, 19);
        wrong("cold 1 1", true, 7);
        wrong("hours 0 12 to 3 to 4", true, 16);
    }

    private static void blanks() {
        PROBE.of("between all there may be blanks (32), also ahead and behind.");
        right("   cold    7   ;   hour    3   ", true);
        right("   warm   7   if   (   not   night   and   3   +   hour   <   heat   )   ", false);
        for (int sign : new int[] {0, 9, 10, 11, 12, 13, 31, 33, 95, 127, 128, 133, 160, 255}) {
            String none = String.valueOf((char) sign);
            wrong(none + "cold 1", true, 0);
            wrong("cold" + none + "1", true, 4);
            wrong("cold 1" + none, true, 6);
            wrong("  cold 1;" + none, true, 9);
            wrong(none, true, 0);
            wrong(none + "warm 1", false, 0);
            wrong("warm 1" + none + "if night", false, 6);
            wrong("warm 1 if night" + none, false, 15);
        }
        wrong("cold 1 2", true, 7);
        wrong("  ; cold 1", true, 2);
        wrong("cold 1 ;; cold 2", true, 8);
        wrong("cold 1 ;   ", true, 11);
    }

    private static void noLine() {
        PROBE.of("A text that is empty, or blanks alone, has no LINE.");
        ClockShares x = new ClockShares();
        PROBE.is("an empty deed", x.deed(), 1);
        Probe.feed(x, " ");
        PROBE.is("a deed of a blank", x.deed(), 2);
        Probe.feed(x, " ".repeat(400));
        PROBE.is("a deed of 400 blanks", x.deed(), 3);
        PROBE.is("without a law", x.count(3), ClockShares.NONE);
        PROBE.is("an empty law", x.law(), 0);
        PROBE.is("a law without lines", x.count(3), 0);
        Probe.feed(x, "warm 1");
        PROBE.is("a law of one line", x.law(), 1);
        Probe.feed(x, " ".repeat(400));
        PROBE.is("a law of 400 blanks", x.law(), 0);
        PROBE.is("in place of the one before", x.count(3), 0);
        wrong(";", true, 0);
        wrong(";", false, 0);
    }

    private static void depth() {
        PROBE.of("( and not within one another at most 6 deep.");
        right("warm 1 if " + "(".repeat(6) + "night" + ")".repeat(6), false);
        right("warm 1 if " + "not ".repeat(6) + "night", false);
        right("warm 1 if not (not (not (night)))", false);
        right("warm 1 if (not (not (not night)))", false);
        PROBE.of("the ( or not that is a 7th one deep");
        wrong("warm 1 if " + "(".repeat(7) + "night" + ")".repeat(7), false, 16);
        wrong("warm 1 if " + "not ".repeat(7) + "night", false, 34);
        wrong("warm 1 if not (not (not (not night)))", false, 25);
        wrong("warm 1 if (not (not (not (night))))", false, 25);
        wrong("warm 1 if not not not not not not (night)", false, 34);
        wrong("warm 1 if ((((((not night))))))", false, 16);
        wrong("warm 1 if ((((((1 < 2 and night or not night))))))", false, 35);
        wrong("warm 1 if ((((((night and (night)))))))", false, 26);
        PROBE.of("within one another");
        right("warm 1 if ((((((night)))))) and ((((((night)))))) or not not not not not not night", false);
        right("warm 1 if (((((night and not night) or not night)))) and not (((((night)))))", false);
        right("warm 1 if " + "(night) and not night or ".repeat(12) + "((((((night))))))", false);
        wrong("warm 1 if (((((not night)))) and not (((((night)))))", false, 41);
        wrong("warm 1 if (((((not night))))) and not ((((((night))))))", false, 43);
    }

    private static String rows(String line, int times, String last) {
        return (line + ";").repeat(times) + last;
    }

    private static void linesTooMany() {
        PROBE.of("LINE { ; LINE }, at most 14: family purse N");
        ClockShares x = Probe.house(rows("cold 3", 13, "cold 4"));
        PROBE.is("the 14th line counts", x.count(10), 4);
        PROBE.of("of a LINE, a FAMILY, a THING too many, the first word");
        wrong(rows("cold 3", 14, "cold 4"), true, 98);
        wrong(rows("cold 3", 14, "   cold 4"), true, 101);
        wrong(rows("cold 3", 14, "zz"), true, 98);
        wrong(rows("cold 3", 14, ";"), true, 98);
        wrong(rows("cold 3", 14, ""), true, 98);
        wrong(rows("cold 3", 14, "  "), true, 100);
        wrong(rows("cold 3", 13, "cold 4 zz"), true, 98);
        wrong(rows("cold 3", 14, "cold 4;cold 5"), true, 98);
        PROBE.of("THE LAW (a text, in place of the one before): LINE { ; LINE }, at most 12: warm N");
        ClockShares y = Probe.house(FAMILY);
        Probe.law(y, rows("warm 1", 11, "warm 2"));
        PROBE.is("twelve lines", y.count(3), 12);
        PROBE.is("the 12th line counts", y.does(0, 0, 0), 1 + 11 + 2);
        wrong(rows("warm 1", 12, "warm 2"), false, 84);
        wrong(rows("warm 1", 12, "  warm 2"), false, 86);
        wrong(rows("warm 1", 12, "zz"), false, 84);
        wrong(rows("warm 1", 12, ";"), false, 84);
        wrong(rows("warm 1", 12, ""), false, 84);
        wrong(rows("warm 1 if night", 12, "warm 2"), false, 192);
    }

    private static void familiesTooMany() {
        PROBE.of("FAMILIES (at most 6, numbered from 0 on)");
        ClockShares x = Probe.house(rows(FAMILY, 2, "family purse 3 dust 1 stove 1"), rows(FAMILY, 2, "family purse 6 dust 1 stove 1 hours 3 to 3"));
        PROBE.is("six families", x.count(0), 6);
        PROBE.is("numbered from 0 on", x.family(2, 0), 3);
        PROBE.is("numbered from 0 on", x.family(5, 0), 6);
        PROBE.is("held by the last one", x.holds(3), 5);
        PROBE.fails("a 7th one", IndexOutOfBoundsException.class, () -> x.family(6, 0));
        PROBE.deedFault(x, "family", 0);
        PROBE.deedFault(x, " cold 1; " + FAMILY, 9);
        PROBE.deedFault(x, FAMILY + " hours 0 to 99", 0);
        PROBE.is("six families still", x.count(0), 6);
        PROBE.is("who has the hour", x.holds(0), -1);
        PROBE.deedFault(rows(FAMILY, 6, FAMILY), 6 * (FAMILY.length() + 1));
        wrong(rows(FAMILY, 4, FAMILY), true, 4 * (FAMILY.length() + 1));
        right(rows(FAMILY, 3, FAMILY), true);
    }

    private static void thingsTooMany() {
        PROBE.of("THINGS (at most 8, numbered from 0 on)");
        ClockShares x = Probe.house(TWO, rows("thing 0 bulk 1", 3, "thing 1 bulk 4"), rows("thing 0 bulk 1", 3, "thing 1 bulk 8 left"));
        PROBE.is("eight things", x.count(1), 8);
        PROBE.is("numbered from 0 on", x.thing(3, 1), 4);
        PROBE.is("numbered from 0 on", x.thing(7, 1), 8);
        PROBE.is("the last is left", x.count(14), 1 << 7);
        PROBE.fails("a 9th one", IndexOutOfBoundsException.class, () -> x.thing(8, 0));
        PROBE.deedFault(x, "thing", 0);
        PROBE.deedFault(x, "thing 9 bulk 0", 0);
        PROBE.deedFault(x, "cold 2 ;  thing 0 bulk 1", 10);
        PROBE.is("eight things still", x.count(1), 8);
        PROBE.is("cold as ahead", x.count(10), 1);
        wrong(rows("thing 0 bulk 1", 8, "thing 0 bulk 1"), true, 8 * 15);
        right(rows("thing 0 bulk 1", 7, "thing 0 bulk 1"), true);
    }

    private static void textsTooMany() {
        PROBE.of("THE DEED is told in texts (at most 12, one behind another)");
        ClockShares x = new ClockShares();
        for (int i = 1; i <= 12; i++) {
            Probe.feed(x, i == 1 ? FAMILY : "price " + i);
            PROBE.is("text " + i, x.deed(), i);
        }
        PROBE.is("what the 12th tells", x.count(12), 12);
        Probe.feed(x, "price 13");
        PROBE.of("UnsupportedOperationException: there are 12.");
        PROBE.fails("a 13th text", UnsupportedOperationException.class, x::deed);
        PROBE.is("what the 12th told", x.count(12), 12);
        PROBE.is("texts", x.count(2), 12);
        PROBE.is("the tape is used up", Snapshot.tapeLength(x), 0);
        PROBE.fails("an empty 13th text", UnsupportedOperationException.class, x::deed);
        PROBE.of("IllegalArgumentException: it is wrong; UnsupportedOperationException: there are 12.");
        PROBE.deedFault(x, "price 100", 6);
        PROBE.is("texts", x.count(2), 12);
        PROBE.of("Uses the TAPE up: THE LAW: how many LINES.");
        Probe.feed(x, "warm 1;warm 2");
        PROBE.is("a law is no text of the deed", x.law(), 2);
    }

    private static void aFamilyByThen() {
        PROBE.of("that tells none that can be");
        PROBE.deedFault("thing 0 bulk 1;" + FAMILY, 6);
        PROBE.deedFault("hours 0 1 to 2;" + FAMILY, 6);
        PROBE.deedFault("wishes 0 1 to 2;" + FAMILY, 7);
        PROBE.deedFault(FAMILY + ";hours 1 1 to 2;" + FAMILY, FAMILY.length() + 7);
        PROBE.of("(F: a FAMILY that there is by then;");
        ClockShares x = Probe.house(FAMILY + ";thing 0 bulk 1;" + FAMILY + ";hours 1 1 to 2;wishes 1 3 to 3");
        PROBE.is("of the same text", x.holds(1), 1);
        PROBE.is("of the same text", x.family(1, 3), 8);
        PROBE.deedFault(x, "hours 2 1 to 2", 6);
    }

    private static void nothingStays() {
        PROBE.of("Of a wrong text nothing stays.");
        String[] lines = {FAMILY + " hours 0 to 23 wishes 0 to 23", "hours 1 0 to 9", "free 0 to 23", "thing 1 bulk 9 left", "cold 9", "fine 20",
            "price 99", "guests 99", "hour 23", "wishes 0 0 to 23"};
        for (String line : lines) {
            wrong(line + ";", true, line.length() + 1);
            wrong(line + ";zz", true, line.length() + 1);
        }
        ClockShares x = Probe.house(TWO);
        Probe.law(x, "warm 5");
        x.dust();
        PROBE.is("one act", x.count(17), 1);
        Probe.feed(x, "warm 7;dust 3 if");
        PROBE.fails("a wrong law", IllegalArgumentException.class, x::law);
        PROBE.is("the law before", x.does(0, 0, 0), 6);
        PROBE.is("the law before", x.does(0, 0, 1), 1);
        PROBE.is("its lines", x.count(3), 1);
        PROBE.is("acts", x.count(17), 1);
        PROBE.of("The first wrong byte of the latest text that was read; NONE without one, and ahead of any.");
        PROBE.is("fault of the wrong law", x.fault(), 16);
        Probe.feed(x, "cold 1;zz");
        PROBE.is("the text is not read yet", x.fault(), 16);
        PROBE.fails("a wrong deed", IllegalArgumentException.class, x::deed);
        PROBE.is("fault of the wrong deed", x.fault(), 7);
        PROBE.is("fault is asked again", x.fault(), 7);
        x.law();
        PROBE.is("fault of a right text", x.fault(), -1);
        PROBE.is("ahead of any", new ClockShares().fault(), -1);
    }

    private static void fullTape() {
        PROBE.of("NONE, and none come, if it would have more than 400.");
        ClockShares x = new ClockShares();
        for (int i = 1; i <= 20; i++) {
            PROBE.is("bytes", x.feed(0x20202020, 0x20202020, 0x20202020, 0x20202020, 0x20202020), 20 * i);
        }
        PROBE.is("one more feed", x.feed(-1, -1, -1, -1, -1), -1);
        PROBE.is("bytes", Snapshot.tapeLength(x), 400);
        PROBE.is("no byte came", x.law(), 0);
        PROBE.is("bytes", x.feed(1, 2, 3, 4, 5), 20);
        for (int length : new int[] {399, 390, 381}) {
            fill(x, length);
            PROBE.is("behind " + length, x.feed(0, 0, 0, 0, 0), -1);
            PROBE.is("none came", Snapshot.tapeLength(x), length);
        }
        fill(x, 380);
        PROBE.is("behind 380", x.feed(0, 0, 0, 0, 0), 400);
        PROBE.of("The TAPE has its first n bytes alone: true; false, and nothing happens, if it has fewer, or n is below 0.");
        for (int n : new int[] {401, -1, Integer.MIN_VALUE, Integer.MAX_VALUE}) {
            PROBE.is("end(" + n + ")", x.end(n), false);
            PROBE.is("nothing happens", Snapshot.tapeLength(x), 400);
        }
        PROBE.is("as many as it has", x.end(400), true);
        PROBE.is("bytes", Snapshot.tapeLength(x), 400);
        PROBE.is("one less", x.end(399), true);
        PROBE.is("no more there", x.end(400), false);
        PROBE.is("none", x.end(0), true);
        PROBE.is("none, of none", x.end(0), true);
        PROBE.is("one, of none", x.end(1), false);
        firstBytesAlone();
    }

    private static void fill(ClockShares x, int length) {
        x.end(0);
        Probe.feed(x, "x".repeat(length));
    }

    /** The first bytes stay what they were, and new ones come behind these. */
    private static void firstBytesAlone() {
        ClockShares x = new ClockShares();
        Probe.feed(x, "cold 7;cold 10");
        x.end(6);
        x.feed(';' << 24 | 'c' << 16 | 'o' << 8 | 'l', 'd' << 24 | '8' << 16, 0, 0, 0);
        x.end(12);
        PROBE.is("the text of both", x.deed(), 1);
        PROBE.is("its second line", x.count(10), 8);
        PROBE.of("Twenty bytes come behind the TAPE, of each number the highest first: how many it has");
        x.feed(0x636F6C64, 0x20372020, 0x20202020, 0x3B707269, 0x63652039);
        PROBE.is("all twenty", x.deed(), 2);
        PROBE.is("of the second number", x.count(10), 7);
        PROBE.is("of the last number", x.count(12), 9);
    }

    private static void wholeTape() {
        PROBE.of("Uses the TAPE up: a text of THE DEED: how many there are.");
        String blanks = " ".repeat(393);
        right("cold" + blanks + "  7", true);
        wrong("cold 7" + blanks + ";", true, 400);
        wrong("cold 7" + blanks + "7", true, 399);
        wrong(blanks + "cold 10", true, 398);
        wrong("warm 7" + blanks + ";", false, 400);
        wrong("warm 7" + blanks + "7", false, 399);
        right("warm 1 if " + " ".repeat(385) + "night", false);
        wrong("warm 1 if " + " ".repeat(385) + "nighs", false, 395);
        wrong("cold 7;" + "x".repeat(393), true, 7);
        wrong("cold " + "1".repeat(395), true, 5);
        wrong("warm 1 if " + "(".repeat(390), false, 16);
        wrong("warm 1 if " + "not ".repeat(97), false, 34);
    }
}
