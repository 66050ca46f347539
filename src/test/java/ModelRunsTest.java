import java.util.Random;

/** Random runs of calls, right ones and wrong ones, on the class and on the naive model at once. */
final class ModelRunsTest {
    private static final int RUNS = 1500;
    private static final int CALLS = 300;

    private final Random random;
    private final ClockShares x = new ClockShares();
    private final Model m = new Model();
    private final int run;
    private static int wrong = 0;
    private static long checks = 0;

    private ModelRunsTest(int run) {
        this.run = run;
        random = new Random(run);
    }

    public static void main(String[] args) {
        for (int run = 0; run < RUNS && wrong < 20; run++) {
            new ModelRunsTest(run).runAll();
        }
        System.out.println("ModelRunsTest: " + checks + " checks, " + wrong + " wrong");
        if (wrong != 0) {
            System.exit(1);
        }
    }

    private void runAll() {
        for (int tries = 0; tries < 8 && m.s.fams.size() < 2; tries++) {
            tell(new Texts(random, m.s.fams.size()).deed(false), true);
        }
        for (int i = 0; i < CALLS && wrong < 20; i++) {
            step();
        }
    }

    private void same(String call, Probe.Call own, Probe.Call due) {
        checks++;
        String got = outcome(own);
        String want = outcome(due);
        if (!got.equals(want)) {
            wrong++;
            System.out.println("run " + run + ": " + call + " answered " + got + ", due is " + want);
        }
    }

    private static String outcome(Probe.Call call) {
        try {
            return Long.toString(call.answer());
        } catch (RuntimeException e) {
            return e.getClass().getName();
        }
    }

    private void feed(byte[] bytes) {
        same("end(0)", () -> x.end(0) ? 1 : 0, () -> m.end(0) ? 1 : 0);
        for (int at = 0; at < bytes.length; at += 20) {
            int[] n = new int[5];
            for (int i = 0; i < 20; i++) {
                n[i / 4] = n[i / 4] << 8 | (at + i < bytes.length ? bytes[at + i] & 255 : 0);
            }
            same("feed", () -> x.feed(n[0], n[1], n[2], n[3], n[4]), () -> m.feed(n[0], n[1], n[2], n[3], n[4]));
        }
        same("end(" + bytes.length + ")", () -> x.end(bytes.length) ? 1 : 0, () -> m.end(bytes.length) ? 1 : 0);
    }

    private void tell(String text, boolean isDeed) {
        feed(text.getBytes(java.nio.charset.StandardCharsets.ISO_8859_1));
        if (isDeed) {
            same("deed of " + text, x::deed, m::deed);
        } else {
            same("law of " + text, x::law, m::law);
        }
        same("fault of " + text, x::fault, () -> m.fault);
    }

    /** Mostly what can be, at times what cannot. */
    private int upTo(int most) {
        int wild = random.nextInt(60);
        if (wild == 0) {
            return random.nextInt();
        }
        return wild == 1 ? -1 : wild == 2 ? most + 1 : random.nextInt(most + 1);
    }

    private int family() {
        return upTo(Math.max(0, m.s.fams.size() - 1));
    }

    private int thing() {
        return upTo(Math.max(0, m.s.things.size() - 1));
    }

    private void step() {
        int kind = random.nextInt(100);
        if (kind < 4) {
            texts();
        } else if (kind < 45) {
            acts();
        } else if (kind < 70) {
            states();
        } else {
            questions();
        }
    }

    private void texts() {
        Texts texts = new Texts(random, m.s.fams.size());
        boolean spoilt = random.nextInt(3) == 0;
        if (random.nextInt(3) == 0) {
            tell(texts.deed(spoilt), true);
        } else {
            tell(texts.law(spoilt), false);
        }
        same("fault", x::fault, () -> m.fault);
    }

    private void acts() {
        int a = upTo(23);
        int b = upTo(23);
        int f = family();
        int t = thing();
        int n = random.nextInt(4) == 0 ? upTo(100) : 1 + random.nextInt(6);
        switch (random.nextInt(14)) {
            case 0 -> same("sell(" + a + ", " + f + ")", () -> x.sell(a, f), () -> m.sell(a, f));
            case 1 -> same("buy(" + a + ", " + f + ")", () -> x.buy(a, f), () -> m.buy(a, f));
            case 2 -> same("swap(" + a + ", " + b + ")", () -> x.swap(a, b), () -> m.swap(a, b));
            case 3 -> same("free(" + a + ")", () -> x.free(a), () -> m.free(a));
            case 4, 5 -> same("leave(" + t + ")", () -> x.leave(t), () -> m.leave(t));
            case 6 -> same("fetch(" + t + ")", () -> x.fetch(t), () -> m.fetch(t));
            case 7 -> same("quiet()", x::quiet, m::quiet);
            case 8 -> same("dust()", x::dust, m::dust);
            case 9, 10 -> same("hours(" + n + ")", () -> x.hours(n), () -> m.hours(n));
            case 11 -> same("undo()", () -> x.undo() ? 1 : 0, () -> m.undo() ? 1 : 0);
            case 12 -> same("seed", () -> x.seed(a), () -> m.seed(a));
            default -> imageOrBack();
        }
    }

    private void imageOrBack() {
        if (random.nextInt(3) == 0) {
            x.image();
            m.image();
        } else {
            same("back()", () -> x.back() ? 1 : 0, () -> m.back() ? 1 : 0);
        }
    }

    private void states() {
        int f = family();
        int t = thing();
        int h = upTo(23);
        int what = upTo(8);
        int ago = upTo(20);
        int of = upTo(17);
        switch (random.nextInt(9)) {
            case 0, 1, 2 -> same("count(" + of + ")", () -> x.count(of), () -> m.count(of));
            case 3 -> same("holds(" + h + ")", () -> x.holds(h), () -> m.holds(h));
            case 4 -> same("family(" + f + ", " + what + ")", () -> x.family(f, what), () -> m.family(f, what));
            case 5 -> same("does(" + f + ", " + h + ", " + what % 3 + ")", () -> x.does(f, h, what % 3), () -> m.does(f, h, what % 3));
            case 6 -> same("thing(" + t + ", " + what % 5 + ")", () -> x.thing(t, what % 5), () -> m.thing(t, what % 5));
            case 7 -> same("log(" + ago + ", " + what % 6 + ")", () -> x.log(ago, what % 6), () -> m.log(ago, what % 6));
            default -> same("led(" + f + ")", () -> x.led(f, what > 3), () -> m.led(f, what > 3));
        }
    }

    private void questions() {
        int f = family();
        int o = family();
        int h = upTo(23);
        int n = upTo(200);
        int level = upTo(99);
        int set = random.nextBoolean() ? random.nextInt() : random.nextInt(64);
        int sum = upTo(999);
        boolean flag = random.nextBoolean();
        switch (random.nextInt(24)) {
            case 0 -> same("changes()", x::changes, m::changes);
            case 1 -> same("met(" + f + ", " + o + ")", () -> x.met(f, o), () -> m.met(f, o));
            case 2 -> same("gaps()", x::gaps, m::gaps);
            case 3 -> same("deal()", x::deal, m::deal);
            case 4 -> same("trade()", x::trade, m::trade);
            case 5 -> fewest();
            case 6 -> same("worth(" + set + ")", () -> x.worth(set), () -> m.worth(set));
            case 7 -> same("part(" + f + ", " + sum + ")", () -> x.part(f, sum), () -> m.part(f, sum));
            case 8 -> same("corner(" + f + ")", () -> x.corner(f), () -> m.corner(f));
            case 9 -> same("bids(" + f + ", " + o + ", " + h + ")", () -> x.bids(f, o, h), () -> m.bids(f, o, h));
            case 10 -> who(flag);
            case 11 -> same("common()", x::common, m::common);
            case 12 -> same("lovers()", x::lovers, m::lovers);
            case 13 -> same("lesson(" + h % 5 + ")", () -> x.lesson(h % 5), () -> m.lesson(h % 5));
            case 14 -> same("lesson(" + h + ")", () -> x.lesson(h), () -> m.lesson(h));
            case 15 -> same("widows()", x::widows, m::widows);
            case 16 -> same("ahead(" + n + ", " + h % 4 + ")", () -> x.ahead(n, h % 4), () -> m.ahead(n, h % 4));
            case 17 -> same("dusty(" + level + ")", () -> x.dusty(level), () -> m.dusty(level));
            case 18 -> same("warmest(" + n + ")", () -> x.warmest(n), () -> m.warmest(n));
            case 19 -> same("ruin(" + f + ")", () -> x.ruin(f), () -> m.ruin(f));
            case 20 -> same("rich()", x::rich, m::rich);
            case 21 -> same("cramped()", x::cramped, m::cramped);
            case 22 -> same("trial(" + n + ", " + flag + ")", () -> x.trial(n, flag), () -> m.trial(n, flag));
            default -> same("span(" + n + ", " + flag + ")", () -> x.span(n, flag), () -> m.span(n, flag));
        }
    }

    /** The model tries all ways, so that it is asked seldom. */
    private void fewest() {
        if (random.nextInt(40) == 0) {
            same("fewest()", x::fewest, m::fewest);
        }
    }

    private void who(boolean rows) {
        byte[] told = new byte[random.nextInt(random.nextInt(10) == 0 ? 30 : 5)];
        for (int i = 0; i < told.length; i++) {
            int dust = m.s.fams.isEmpty() ? 3 : m.s.fams.get(random.nextInt(m.s.fams.size())).dust;
            told[i] = (byte) (random.nextInt(30) == 0 ? random.nextInt(256) : dust);
        }
        feed(told);
        same("who(" + rows + ")", () -> x.who(rows), () -> m.who(rows));
    }
}
