import java.io.IOException;
import java.io.UncheckedIOException;
import java.nio.file.Files;
import java.nio.file.Path;

/** Counts the calls of a test whose answers are not due, and ends the test by them. */
final class Probe {
    private static final Path DOCUMENT = Path.of("../shared/DOC.md");

    interface Call {
        long answer();
    }

    private final String test;
    private String document = null;
    private String sentence = "";
    private int checks = 0;
    private int wrong = 0;

    Probe(String test) {
        this.test = test;
    }

    /** A new object that has been told these texts of the deed. */
    static ClockShares house(String... deeds) {
        ClockShares x = new ClockShares();
        for (String deed : deeds) {
            feed(x, deed);
            x.deed();
        }
        return x;
    }

    /** The tape, which must be empty, then has this text. */
    static void feed(ClockShares x, String text) {
        byte[] bytes = new byte[text.length()];
        for (int i = 0; i < bytes.length; i++) {
            bytes[i] = (byte) text.charAt(i);
        }
        feed(x, bytes);
    }

    static void feed(ClockShares x, byte... bytes) {
        for (int at = 0; at < bytes.length; at += 20) {
            x.feed(number(bytes, at), number(bytes, at + 4), number(bytes, at + 8), number(bytes, at + 12), number(bytes, at + 16));
        }
        x.end(bytes.length);
    }

    private static int number(byte[] bytes, int at) {
        int number = 0;
        for (int i = at; i < at + 4; i++) {
            number = number << 8 | (i < bytes.length ? bytes[i] & 255 : 0);
        }
        return number;
    }

    static void law(ClockShares x, String text) {
        feed(x, text);
        x.law();
    }

    /** The words of the document that the checks behind this one are for; they must stand there. */
    void of(String words) {
        checks++;
        sentence = " (" + words + ")";
        if (!document().contains(words)) {
            wrong++;
            System.out.println(test + ": the document does not say: " + words);
        }
    }

    private String document() {
        try {
            document = document == null ? Files.readString(DOCUMENT) : document;
        } catch (IOException e) {
            throw new UncheckedIOException(e);
        }
        return document;
    }

    void is(String what, boolean got, boolean due) {
        is(what, got ? 1 : 0, due ? 1 : 0);
    }

    /** Of two long texts only the place is told where they part. */
    void is(String what, String got, String due) {
        checks++;
        if (!got.equals(due)) {
            wrong++;
            int at = 0;
            while (at < got.length() && at < due.length() && got.charAt(at) == due.charAt(at)) {
                at++;
            }
            System.out.println(test + ": " + what + " at " + at + " is " + excerpt(got, at) + ", due is " + excerpt(due, at) + sentence);
        }
    }

    private static String excerpt(String text, int at) {
        return text.substring(at, Math.min(text.length(), at + 30));
    }

    void is(String what, long got, long due) {
        checks++;
        if (got != due) {
            wrong++;
            System.out.println(test + ": " + what + " answered " + got + ", due is " + due + sentence);
        }
    }

    /** The very class is asked for, so that what the machine throws by itself never counts as due. */
    void fails(String what, Class<? extends RuntimeException> due, Call call) {
        checks++;
        try {
            long got = call.answer();
            wrong++;
            System.out.println(test + ": " + what + " answered " + got + ", due is " + due.getSimpleName() + sentence);
        } catch (RuntimeException e) {
            if (e.getClass() != due) {
                wrong++;
                System.out.println(test + ": " + what + " threw " + e + ", due is " + due.getSimpleName() + sentence);
            }
        }
    }

    /** The text is wrong as a deed, from this byte on, and nothing of it stays. */
    void deedFault(String text, int due) {
        ClockShares x = new ClockShares();
        deedFault(x, text, due);
        is("families after the wrong deed " + text, x.count(0), 0);
        is("texts after the wrong deed " + text, x.count(2), 0);
        is("tape after the wrong deed " + text, x.feed(0, 0, 0, 0, 0), 20);
    }

    void deedFault(ClockShares x, String text, int due) {
        feed(x, text);
        fails("deed of " + text, IllegalArgumentException.class, x::deed);
        is("fault of the deed " + text, x.fault(), due);
    }

    void lawFault(String text, int due) {
        ClockShares x = new ClockShares();
        feed(x, text);
        fails("law of " + text, IllegalArgumentException.class, x::law);
        is("fault of the law " + text, x.fault(), due);
        is("lines after the wrong law " + text, x.count(3), ClockShares.NONE);
        is("tape after the wrong law " + text, x.feed(0, 0, 0, 0, 0), 20);
    }

    void finish() {
        System.out.println(test + ": " + checks + " checks, " + wrong + " wrong");
        if (wrong != 0) {
            System.exit(1);
        }
    }
}
