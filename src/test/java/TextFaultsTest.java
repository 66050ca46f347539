import java.util.Random;

/** Promises 4 to 6: the first wrong byte of many spoilt texts, as by the naive model. */
final class TextFaultsTest {
    private static final int TEXTS = 60000;

    public static void main(String[] args) {
        Random random = new Random(49);
        int wrong = 0;
        int faults = 0;
        for (int i = 0; i < TEXTS && wrong < 20; i++) {
            boolean isDeed = random.nextBoolean();
            Texts texts = new Texts(random, 0);
            String text = isDeed ? texts.deed(random.nextBoolean()) : texts.law(random.nextBoolean());
            int got = fault(text, isDeed);
            int due = modelFault(text, isDeed);
            faults += due == ClockShares.NONE ? 0 : 1;
            if (got != due) {
                wrong++;
                System.out.println("TextFaultsTest: fault of " + text + " answered " + got + ", due is " + due);
            }
        }
        System.out.println("TextFaultsTest: " + TEXTS + " texts, " + faults + " of them wrong ones, " + wrong + " answers wrong");
        if (wrong != 0 || faults < TEXTS / 4 || faults > TEXTS * 3 / 4) {
            System.exit(1);
        }
    }

    private static int fault(String text, boolean isDeed) {
        ClockShares x = new ClockShares();
        Probe.feed(x, text);
        boolean threw = false;
        try {
            if (isDeed) {
                x.deed();
            } else {
                x.law();
            }
        } catch (IllegalArgumentException e) {
            threw = true;
        }
        return threw == (x.fault() != ClockShares.NONE) ? x.fault() : -99;
    }

    private static int modelFault(String text, boolean isDeed) {
        Model m = new Model();
        m.tape = text.getBytes(java.nio.charset.StandardCharsets.ISO_8859_1);
        try {
            if (isDeed) {
                m.deed();
            } else {
                m.law();
            }
        } catch (IllegalArgumentException e) {
            return m.fault;
        }
        return ClockShares.NONE;
    }
}
