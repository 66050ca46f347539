/** The boundary cases of hours ahead and of trials: how many, never, of several the first, nothing stays. */
final class EdgesOfAheadTest {
    private static final Probe PROBE = new Probe("EdgesOfAheadTest");
    private static final int NONE = ClockShares.NONE;
    private static final int[] NO_SPANS = {-1, 201, Integer.MIN_VALUE, Integer.MAX_VALUE};

    public static void main(String[] args) {
        howFar();
        withoutDraws();
        finesAhead();
        dusty();
        warmest();
        ruin();
        trial();
        purses();
        span();
        nothingStays();
        PROBE.finish();
    }

    private static void howFar() {
        PROBE.of("AHEAD by N HOURS (0 to 200): as so many HOURS without (d).");
        ClockShares x = Probe.house("family purse 1 dust 1 stove 2 hours 0 to 7;hour 23;cold 1");
        for (int n : NO_SPANS) {
            PROBE.fails("ahead(" + n + ", 0)", IllegalArgumentException.class, () -> x.ahead(n, 0));
        }
        PROBE.is("heat now", x.ahead(0, 0), 10);
        PROBE.is("dirt now", x.ahead(0, 1), 0);
        PROBE.is("none is in now", x.ahead(0, 2), NONE);
        PROBE.is("heat in one hour", x.ahead(1, 0), 9);
        PROBE.is("one is in, in one hour", x.ahead(1, 2), 0);
        PROBE.is("none is in, in nine hours", x.ahead(9, 2), NONE);
        PROBE.is("dirt in nine hours", x.ahead(9, 1), 8);
        PROBE.is("one is in, in 199 hours", x.ahead(199, 2), 0);
        PROBE.is("dirt in 199 hours", x.ahead(199, 1), 64 + 6);
        PROBE.is("dirt in 200 hours", x.ahead(200, 1), 64 + 7);
        PROBE.of("AHEAD what 0 HEAT, 1 DIRT, 2 the one IN (NONE).");
        int[] heat = heatByHours(x, 200);
        for (int n = 0; n <= 200; n++) {
            PROBE.is("heat in " + n, x.ahead(n, 0), heat[n]);
        }
    }

    /** The same hours, gone by in truth on a like object. */
    private static int[] heatByHours(ClockShares like, int hours) {
        ClockShares y = Probe.house("family purse 1 dust 1 stove 2 hours 0 to 7;hour 23;cold 1");
        int[] heat = new int[hours + 1];
        for (int n = 0; n <= hours; n++) {
            heat[n] = y.count(6);
            y.hours(1);
        }
        PROBE.is("like objects", heat[0], like.count(6));
        return heat;
    }

    private static void withoutDraws() {
        PROBE.of("as so many HOURS without (d)");
        ClockShares x = Probe.house("family purse 1 dust 1 stove 0 hours 0 to 23;guests 100");
        Probe.law(x, "dust 9 if quarrel > 0;warm 9 if quarrel > 0");
        PROBE.is("dirt", x.ahead(5, 1), 5);
        PROBE.is("heat", x.ahead(5, 0), 5);
        PROBE.is("dusty", x.dusty(60), 60);
        PROBE.is("warmest", x.warmest(50), 0);
        x.hours(1);
        PROBE.is("with the quarrel as it is now", x.ahead(5, 1), 51);
        PROBE.is("warmest, with the quarrel as it is now", x.warmest(5), 5);
    }

    private static void finesAhead() {
        PROBE.of("AHEAD by N HOURS");
        ClockShares x = Probe.house("family purse 9 dust 1 stove 0 hours 0 to 1;family purse 9 dust 2 stove 0 hours 2 to 2;thing 0 bulk 4 left");
        Probe.law(x, "dust 9 if left > 0");
        PROBE.is("the thing is left in the second hour", x.ahead(2, 1), 20);
        PROBE.is("and taken along ahead of the third", x.ahead(3, 1), 22);
        PROBE.is("in truth it is still left", x.count(14), 1);
    }

    private static void dusty() {
        PROBE.of("DUSTY: the first N (0 to 200) AHEAD by which DIRT is so much (1 to 99) at least; none.");
        ClockShares x = Probe.house("family purse 1 dust 2 stove 0 hours 0 to 23");
        for (int dirt : new int[] {0, 100, -1, Integer.MIN_VALUE, Integer.MAX_VALUE}) {
            PROBE.fails("dusty(" + dirt + ")", IllegalArgumentException.class, () -> x.dusty(dirt));
        }
        PROBE.is("the least", x.dusty(1), 1);
        PROBE.is("as much", x.dusty(2), 1);
        PROBE.is("at least", x.dusty(3), 2);
        PROBE.is("the most", x.dusty(99), 50);
        x.hours(3);
        PROBE.is("less than now", x.dusty(5), 0);
        PROBE.is("as much as now", x.dusty(6), 0);
        PROBE.is("more than now", x.dusty(7), 1);
        PROBE.of("DUSTY; NONE. IllegalArgumentException: so much is none.");
        PROBE.is("never", Probe.house("family purse 1 dust 0 stove 0 hours 0 to 23").dusty(1), NONE);
        PROBE.is("a house of nobody", new ClockShares().dusty(1), NONE);
        PROBE.is("in 199", oneHourADay(2).dusty(9), 199);
        PROBE.is("in 200", oneHourADay(1).dusty(9), 200);
        PROBE.is("in 201", oneHourADay(0).dusty(9), NONE);
    }

    /** Dust and a fine come in hour 8 alone. */
    private static ClockShares oneHourADay(int hour) {
        return Probe.house("family purse 1 dust 1 stove 0 hours 8 to 8;hour " + hour);
    }

    private static void warmest() {
        PROBE.of("WARMEST of N HOURS (1 to 200) AHEAD: how many HOURS on HEAT is the greatest (0 to N; of several the first).");
        ClockShares x = Probe.house("family purse 1 dust 0 stove 1 hours 0 to 23;cold 0");
        for (int n : new int[] {0, 201, -1, Integer.MIN_VALUE, Integer.MAX_VALUE}) {
            PROBE.fails("warmest(" + n + ")", IllegalArgumentException.class, () -> x.warmest(n));
        }
        PROBE.is("the last of one", x.warmest(1), 1);
        PROBE.is("the last of 88", x.warmest(88), 88);
        PROBE.is("the last of 89", x.warmest(89), 89);
        PROBE.is("the first of 99 degrees", x.warmest(90), 89);
        PROBE.is("the first of 99 degrees", x.warmest(200), 89);
        PROBE.is("now", new ClockShares().warmest(200), 0);
        PROBE.is("of several the first, now", Probe.house("cold 0").warmest(200), 0);
        PROBE.is("as warm as now once more", Probe.house("family purse 1 dust 0 stove 3 hours 4 to 5").warmest(9), 0);
        ClockShares late = Probe.house("family purse 1 dust 0 stove 9 hours 0 to 0;cold 0;hour 16");
        PROBE.is("the last time within 200", late.warmest(200), 177);
        ClockShares last = Probe.house("family purse 1 dust 0 stove 1 hours 7 to 7;cold 0");
        PROBE.is("the 200th", last.warmest(200), 200);
        PROBE.is("the day before", last.warmest(199), 176);
    }

    private static void ruin() {
        PROBE.of("RUIN of a FAMILY: the first N (0 to 200) AHEAD by which its PURSE is 0; none.");
        ClockShares x = Probe.house("family purse 6 dust 0 stove 0 hours 0 to 3;family purse 7 dust 0 stove 0 hours 4 to 5;family purse 5 dust 0 stove 0 hours 6 to 23;"
            + "family purse 0 dust 0 stove 0;thing 0 bulk 3 left;thing 1 bulk 3 left;thing 2 bulk 3 left");
        PROBE.is("fined by as much", x.ruin(0), 4);
        PROBE.is("fined by one less", x.ruin(1), NONE);
        PROBE.is("fined by one more", x.ruin(2), 24);
        PROBE.is("by now", x.ruin(3), 0);
        PROBE.is("in truth none was fined", x.count(16), 0);
        ClockShares y = Probe.house("family purse 2 dust 0 stove 0 hours 0 to 23;thing 0 bulk 1 left");
        PROBE.of("RUIN; NONE.");
        PROBE.is("who never goes", y.ruin(0), NONE);
        ClockShares dear = Probe.house("family purse 25 dust 0 stove 0 hours 0 to 3;thing 0 bulk 4 left;guests 100");
        Probe.law(dear, "fine 20 if quarrel > 3");
        PROBE.is("without visitors", dear.ruin(0), NONE);
        PROBE.is("with visitors", dear.trial(4, true), 0);
    }

    private static void trial() {
        PROBE.of("TRIAL of N HOURS (0 to 200) from now (draws, too; nothing stays): QUARREL then; PURSES of all then.");
        ClockShares x = Probe.house("family purse 1 dust 0 stove 0 hours 0 to 11;guests 30");
        for (int n : NO_SPANS) {
            PROBE.fails("trial(" + n + ", false)", IllegalArgumentException.class, () -> x.trial(n, false));
            PROBE.fails("trial(" + n + ", true)", IllegalArgumentException.class, () -> x.trial(n, true));
        }
        ClockShares y = Probe.house("family purse 1 dust 0 stove 0 hours 0 to 11;guests 30");
        x.seed(-77);
        y.seed(-77);
        for (int n = 0; n <= 200; n++) {
            PROBE.is("quarrel in " + n, x.trial(n, false), y.count(8));
            y.hours(1);
        }
        PROBE.is("nobody is in", new ClockShares().trial(200, false), 0);
        ClockShares always = Probe.house("family purse 1 dust 0 stove 0 hours 0 to 23;guests 100");
        PROBE.is("8", always.trial(8, false), 8);
        PROBE.is("9", always.trial(9, false), 9);
        PROBE.is("9 at most", always.trial(10, false), 9);
        always.hours(5);
        PROBE.is("from now", always.trial(0, false), 5);
        PROBE.is("from now", always.trial(1, false), 6);
    }

    private static void purses() {
        PROBE.of("TRIAL: QUARREL (purses false), or PURSES.");
        String deed = "family purse 999 dust 0 stove 0 hours 0 to 11;family purse 999 dust 0 stove 0 hours 12 to 12;guests 30;thing 0 bulk 3 left;thing 1 bulk 9 left";
        ClockShares x = Probe.house(deed);
        ClockShares y = Probe.house(deed);
        Probe.law(x, "fine 20 if quarrel > 2");
        Probe.law(y, "fine 20 if quarrel > 2");
        for (int n = 0; n <= 200; n++) {
            PROBE.is("purses in " + n, x.trial(n, true), y.family(0, 0) + y.family(1, 0));
            y.hours(1);
        }
        PROBE.is("no families", new ClockShares().trial(200, true), 0);
        String rich = "family purse 999 dust 0 stove 0";
        PROBE.is("six full purses", Probe.house(rich + ";" + rich + ";" + rich + ";" + rich + ";" + rich + ";" + rich).trial(0, true), 5994);
    }

    private static void span() {
        PROBE.of("SPAN: the least and the greatest QUARREL so from SEED 1, 2, .. 6.");
        ClockShares x = Probe.house("family purse 1 dust 0 stove 0 hours 0 to 11;guests 7");
        for (int n : NO_SPANS) {
            PROBE.fails("span(" + n + ", false)", IllegalArgumentException.class, () -> x.span(n, false));
            PROBE.fails("span(" + n + ", true)", IllegalArgumentException.class, () -> x.span(n, true));
        }
        boolean[] matters = new boolean[8];
        for (int guests : new int[] {3, 7, 15, 25, 40, 60, 90}) {
            spanOfSeeds(guests, matters);
        }
        for (int seed = 0; seed <= 7; seed++) {
            PROBE.is("seed " + seed + " would matter somewhere", matters[seed], true);
        }
        x.seed(123);
        x.span(200, true);
        PROBE.is("the seed stays", x.seed(1), 123);
        PROBE.of("SPAN: the least (most false), or the greatest. IllegalArgumentException: N is none.");
        ClockShares always = Probe.house("family purse 1 dust 0 stove 0 hours 0 to 23;guests 100");
        always.hours(3);
        PROBE.is("of none, from now", always.span(0, false), 3);
        PROBE.is("9 at most", always.span(200, false), 9);
        PROBE.is("nobody is in", new ClockShares().span(200, true), 0);
    }

    /** Marks each seed without which, or with which, the span would be another one. */
    private static void spanOfSeeds(int guests, boolean[] matters) {
        String deed = "family purse 1 dust 0 stove 0 hours 0 to 11;guests " + guests;
        ClockShares x = Probe.house(deed);
        x.seed(123);
        for (int n = 0; n <= 200; n += 5) {
            int[] quarrels = new int[8];
            ClockShares y = Probe.house(deed);
            for (int seed = 0; seed <= 7; seed++) {
                y.seed(seed);
                quarrels[seed] = y.trial(n, false);
            }
            int least = 9;
            int most = 0;
            for (int seed = 1; seed <= 6; seed++) {
                least = Math.min(least, quarrels[seed]);
                most = Math.max(most, quarrels[seed]);
            }
            PROBE.is("least of " + n, x.span(n, false), least);
            PROBE.is("greatest of " + n, x.span(n, true), most);
            for (int seed = 0; seed <= 7; seed++) {
                boolean wider = quarrels[seed] < least || quarrels[seed] > most;
                matters[seed] |= wider || seed % 7 != 0 && (isAlone(quarrels, seed, least) || isAlone(quarrels, seed, most));
            }
        }
    }

    private static boolean isAlone(int[] quarrels, int seed, int bound) {
        int times = 0;
        for (int other = 1; other <= 6; other++) {
            times += quarrels[other] == bound ? 1 : 0;
        }
        return quarrels[seed] == bound && times == 1;
    }

    private static void nothingStays() {
        PROBE.of("(draws, too; nothing stays)");
        ClockShares x = Probe.house("family purse 30 dust 2 stove 5 hours 0 to 3;family purse 9 dust 1 stove 0 hours 4 to 5;thing 0 bulk 5 left;thing 1 bulk 2 left;guests 60");
        x.hours(1);
        x.image();
        String before = Snapshot.state(x);
        x.ahead(200, 0);
        x.ahead(200, 1);
        x.ahead(200, 2);
        x.dusty(99);
        x.warmest(200);
        x.ruin(0);
        x.trial(200, false);
        x.trial(200, true);
        x.span(200, false);
        x.span(200, true);
        PROBE.is("all is as ahead", Snapshot.state(x), before);
        PROBE.is("acts", x.count(17), 1);
        x.hours(9);
        x.back();
        PROBE.is("the image, too", Snapshot.state(x), before);
    }
}
