import java.util.Random;

/** Random texts of the deed and of the law, right ones or spoilt ones. */
final class Texts {
    private static final String[] WORDS = {"family", "purse", "dust", "stove", "hours", "wishes", "to", "free", "thing", "bulk", "left", "cold",
        "fine", "price", "guests", "hour", "warm", "if", "or", "and", "not", "night", "wished", "heat", "dirt", "quarrel", "(", ")", "<", ">", "+",
        ";", "0", "1", "9", "10", "23", "24", "99", "100", "0001", "x", "\u00ff", "\t", "nights"};

    private final Random random;
    private int families;

    /** The texts are for a house that has so many families. */
    Texts(Random random, int families) {
        this.random = random;
        this.families = families;
    }

    String deed(boolean spoilt) {
        StringBuilder text = new StringBuilder();
        int lines = random.nextInt(random.nextInt(8) == 0 ? 17 : 9);
        for (int i = 0; i < lines; i++) {
            add(text, i == 0 ? "" : ";");
            if (families == 0 || families == 1 && random.nextBoolean()) {
                familyLine(text);
            } else {
                deedLine(text);
            }
        }
        return finished(text, spoilt);
    }

    String law(boolean spoilt) {
        StringBuilder text = new StringBuilder();
        int lines = random.nextInt(random.nextInt(8) == 0 ? 14 : 7);
        for (int i = 0; i < lines; i++) {
            add(text, i == 0 ? "" : ";");
            add(text, new String[] {"warm", "dust", "fine"}[random.nextInt(3)]);
            add(text, number(20));
            if (random.nextInt(4) != 0) {
                add(text, "if");
                condition(text, random.nextInt(6) == 0 ? 8 : 3);
            }
        }
        return finished(text, spoilt);
    }

    private String finished(StringBuilder text, boolean spoilt) {
        if (spoilt) {
            spoil(text);
        }
        return text.length() > 400 ? text.substring(0, 400) : text.toString();
    }

    private void spoil(StringBuilder text) {
        for (int times = 1 + random.nextInt(2); times > 0; times--) {
            int at = random.nextInt(text.length() + 1);
            switch (random.nextInt(4)) {
                case 0 -> text.setLength(at);
                case 1 -> text.insert(at, " " + WORDS[random.nextInt(WORDS.length)] + " ");
                case 2 -> text.insert(at, (char) (random.nextBoolean() ? random.nextInt(256) : '0' + random.nextInt(10)));
                default -> text.delete(at, Math.min(text.length(), at + 1 + random.nextInt(5)));
            }
        }
    }

    /** Blanks come where two things would run together, and at times elsewhere. */
    private void add(StringBuilder text, String thing) {
        if (thing.isEmpty()) {
            return;
        }
        boolean touches = text.length() > 0 && kind(text.charAt(text.length() - 1)) == kind(thing.charAt(0));
        int blanks = (touches ? 1 : 0) + (random.nextInt(3) == 0 ? random.nextInt(2) : 0);
        text.append(" ".repeat(blanks)).append(thing);
    }

    private static int kind(char sign) {
        return Character.isLetter(sign) ? 1 : Character.isDigit(sign) ? 2 : sign == ' ' ? 3 : 4;
    }

    private String number(int most) {
        int n = random.nextInt(40) == 0 ? most + 1 : random.nextInt(most + 1);
        return random.nextInt(10) == 0 ? String.format("%03d", n) : Integer.toString(n);
    }

    private void range(StringBuilder text) {
        int from = random.nextInt(24);
        add(text, Integer.toString(from));
        add(text, "to");
        add(text, Integer.toString(random.nextInt(4) == 0 ? random.nextInt(24) : (from + random.nextInt(5)) % 24));
    }

    private void deedLine(StringBuilder text) {
        switch (random.nextInt(12)) {
            case 0 -> familyLine(text);
            case 1, 2, 3, 4 -> {
                add(text, "hours");
                add(text, someFamily());
                range(text);
            }
            case 5 -> {
                add(text, "free");
                range(text);
            }
            case 6, 7 -> {
                add(text, "thing");
                add(text, someFamily());
                add(text, "bulk");
                add(text, Integer.toString(1 + random.nextInt(9)));
                add(text, random.nextBoolean() ? "left" : "");
            }
            case 8, 9 -> {
                add(text, "wishes");
                add(text, someFamily());
                range(text);
            }
            default -> setting(text);
        }
    }

    private String someFamily() {
        return Integer.toString(random.nextInt(50) == 0 ? families : random.nextInt(Math.max(1, families)));
    }

    private void familyLine(StringBuilder text) {
        families++;
        add(text, "family");
        add(text, "purse");
        add(text, number(random.nextBoolean() ? 999 : 40));
        add(text, "dust");
        add(text, number(random.nextBoolean() ? 9 : 2));
        add(text, "stove");
        add(text, number(9));
        if (random.nextInt(4) != 0) {
            add(text, "hours");
            range(text);
        }
        if (random.nextInt(3) != 0) {
            add(text, "wishes");
            range(text);
        }
    }

    private void setting(StringBuilder text) {
        String[] names = {"cold", "fine", "price", "guests", "hour"};
        int[] most = {9, 20, 99, 100, 23};
        int which = random.nextInt(5);
        add(text, names[which]);
        add(text, number(most[which]));
    }

    private void condition(StringBuilder text, int depth) {
        atom(text, depth);
        while (random.nextInt(5) < 2) {
            add(text, random.nextBoolean() ? "and" : "or");
            atom(text, depth);
        }
    }

    private void atom(StringBuilder text, int depth) {
        int kind = random.nextInt(depth > 3 ? 4 : 9);
        if (depth > 0 && kind == 0) {
            add(text, "not");
            atom(text, depth - 1);
        } else if (depth > 0 && kind <= 2) {
            add(text, "(");
            condition(text, depth - 1);
            add(text, ")");
        } else if (kind == 3) {
            add(text, "night");
        } else if (kind == 4) {
            add(text, "wished");
        } else {
            sum(text);
            add(text, random.nextBoolean() ? "<" : ">");
            sum(text);
        }
    }

    private void sum(StringBuilder text) {
        part(text);
        while (random.nextInt(4) == 0) {
            add(text, "+");
            part(text);
        }
    }

    private void part(StringBuilder text) {
        String[] parts = {"family", "hour", "heat", "dirt", "quarrel", "left"};
        add(text, random.nextInt(3) == 0 ? number(random.nextBoolean() ? 30 : 999) : parts[random.nextInt(6)]);
    }
}
