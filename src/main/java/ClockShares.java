import java.util.Arrays;
import java.util.NoSuchElementException;

/** A house that is held in shares of the clock. */
public final class ClockShares {
    public static final int NONE = -1;

    private static final int DAY_HOURS = 24;
    private static final int ALL_HOURS = 0xFFFFFF;
    private static final int NIGHT_HOURS = 0xC0003F;
    private static final int MOST_FAMILIES = 6;
    private static final int MOST_THINGS = 8;
    private static final int MOST_PURSE = 9999;
    private static final int MOST_DAY = 9999;
    private static final int MOST_LEVEL = 99;
    private static final int MOST_QUARREL = 9;
    private static final int MOST_TEXTS = 12;
    private static final int MOST_AHEAD = 200;
    private static final int MOST_RISINGS = 20;
    private static final int MOST_ROWS = 9999;
    private static final int TRIAL_SEEDS = 6;

    private final Tape tape = new Tape();
    private final LawReader lawReader = new LawReader();
    private final House now = new House();
    /** For what is thrown away: a text that may be wrong, hours that only might go by. */
    private final House draft = new House();
    private final House kept = new House();
    private final Memory memory = new Memory();
    private boolean isKept = false;
    private int faultAt = NONE;

    public ClockShares() {
    }

    public int feed(int a, int b, int c, int d, int e) {
        if (tape.length + 20 > Tape.MOST_BYTES) {
            return NONE;
        }
        tape.append(a);
        tape.append(b);
        tape.append(c);
        tape.append(d);
        tape.append(e);
        return tape.length;
    }

    public boolean end(int n) {
        if (n < 0 || n > tape.length) {
            return false;
        }
        tape.length = n;
        return true;
    }

    public int deed() throws IllegalArgumentException, UnsupportedOperationException {
        draft.copyFrom(now);
        faultAt = DeedReader.readInto(draft, tape);
        tape.length = 0;
        if (faultAt != NONE) {
            throw new IllegalArgumentException("the text of the deed is wrong");
        }
        if (now.texts >= MOST_TEXTS) {
            throw new UnsupportedOperationException("the deed has all its texts");
        }
        now.copyFrom(draft);
        now.texts++;
        memory.forget();
        return now.texts;
    }

    public int law() throws IllegalArgumentException {
        faultAt = lawReader.readText(tape);
        tape.length = 0;
        if (faultAt != NONE) {
            throw new IllegalArgumentException("the text of the law is wrong");
        }
        Law law = lawReader.lawRead();
        now.law = law;
        memory.forget();
        return law.lines;
    }

    public int fault() {
        return faultAt;
    }

    public int holds(int hour) throws IndexOutOfBoundsException {
        needHour(hour);
        return now.holder[hour];
    }

    public int family(int family, int what) throws IndexOutOfBoundsException, NoSuchElementException {
        needFamily(family);
        needWhat(what, 8);
        int held = now.heldBy(1 << family);
        switch (what) {
            case 0:
                return now.families.purseOf(family);
            case 1:
                return now.families.dust[family];
            case 2:
                return now.families.stove[family];
            case 3:
                return now.families.wishes[family];
            case 4:
                return held;
            case 5:
                return Integer.bitCount(held);
            case 6:
                return Shares.longestRow(held);
            case 7:
                return Integer.bitCount(held & now.families.wishes[family]);
            default:
                return Shares.comesIn(now, family);
        }
    }

    public int does(int family, int hour, int what) throws IndexOutOfBoundsException, NoSuchElementException {
        needFamily(family);
        needHour(hour);
        needWhat(what, 1);
        return what == 0 ? now.warmsBy(family, hour) : now.dustsBy(family, hour);
    }

    public int thing(int thing, int what) throws IndexOutOfBoundsException, NoSuchElementException {
        needThing(thing);
        needWhat(what, 3);
        switch (what) {
            case 0:
                return now.things.owner[thing];
            case 1:
                return now.things.bulk[thing];
            case 2:
                return now.things.isLeft(thing) ? 1 : 0;
            default:
                return now.finedBy(thing);
        }
    }

    public int sell(int hour, int family) throws IndexOutOfBoundsException, IllegalArgumentException, IllegalStateException {
        needHour(hour);
        needFamily(family);
        int seller = now.holder[hour];
        needOther(seller, family);
        needThat(seller != NONE && now.families.purseOf(family) >= now.price);
        memory.keep(now);
        now.families.pay(family, now.price);
        now.families.earn(seller, now.price);
        now.holder[hour] = family;
        return now.families.purseOf(seller);
    }

    public int buy(int hour, int family) throws IndexOutOfBoundsException, IllegalStateException {
        needHour(hour);
        needFamily(family);
        needThat(now.holder[hour] == NONE && now.families.purseOf(family) >= now.price);
        memory.keep(now);
        now.families.pay(family, now.price);
        now.holder[hour] = family;
        return now.families.purseOf(family);
    }

    public int swap(int hour, int other) throws IndexOutOfBoundsException, IllegalArgumentException, IllegalStateException {
        needHour(hour);
        needHour(other);
        needOther(hour, other);
        int first = now.holder[hour];
        int second = now.holder[other];
        needThat(first != NONE && second != NONE && first != second);
        memory.keep(now);
        now.holder[hour] = second;
        now.holder[other] = first;
        return second;
    }

    public int free(int hour) throws IndexOutOfBoundsException, IllegalStateException {
        needHour(hour);
        int had = now.holder[hour];
        needThat(had != NONE);
        memory.keep(now);
        now.holder[hour] = NONE;
        return had;
    }

    public int leave(int thing) throws IndexOutOfBoundsException, IllegalStateException {
        needThing(thing);
        needThat(now.things.owner[thing] == now.inside() && !now.things.isLeft(thing));
        memory.keep(now);
        now.things.putDown(thing);
        return now.things.bulkLeft();
    }

    public int fetch(int thing) throws IndexOutOfBoundsException, IllegalStateException {
        needThing(thing);
        needThat(now.things.owner[thing] == now.inside() && now.things.isLeft(thing));
        memory.keep(now);
        now.things.takeAlong(thing);
        return now.things.bulkLeft();
    }

    public int quiet() throws IllegalStateException {
        int in = now.inside();
        needThat(in != NONE && now.quarrel > 0 && now.families.purseOf(in) >= now.quarrel);
        memory.keep(now);
        now.families.pay(in, now.quarrel);
        now.quarrel = 0;
        return now.families.purseOf(in);
    }

    public int dust() {
        int was = now.dirt;
        memory.keep(now);
        now.dirt = 0;
        return was;
    }

    public int hours(int n) throws IllegalArgumentException {
        needBetween(n, 1, 100);
        memory.keep(now);
        int fined = 0;
        for (int i = 0; i < n; i++) {
            fined += now.passHour(true);
        }
        return fined;
    }

    public int changes() {
        return Shares.changesOf(now);
    }

    public int met(int family, int other) throws IndexOutOfBoundsException, IllegalArgumentException {
        needFamily(family);
        needFamily(other);
        needOther(family, other);
        return Shares.meetings(now, family, other);
    }

    public int gaps() {
        return Shares.gapsOf(now);
    }

    public int deal() {
        return Shares.mostDealt(now);
    }

    public int trade() {
        return Shares.bestSwap(now);
    }

    public int fewest() {
        return Shares.fewestChanges(now);
    }

    public int worth(int families) {
        return Worth.worthOf(now, families);
    }

    public int part(int family, int sum) throws IndexOutOfBoundsException, IllegalArgumentException {
        needFamily(family);
        needBetween(sum, 0, 999);
        return Worth.partOf(now, family, sum);
    }

    public int corner(int family) throws IndexOutOfBoundsException {
        needFamily(family);
        return Shares.cornerOf(now, family);
    }

    public int bids(int family, int other, int hour) throws IndexOutOfBoundsException, IllegalArgumentException {
        needFamily(family);
        needFamily(other);
        needHour(hour);
        needOther(family, other);
        return Worth.settledBids(now, family, other, hour);
    }

    public int who(boolean rows) throws IllegalArgumentException {
        boolean isRight = tellsRisings();
        int found = isRight ? (rows ? rowsOfSuspects() : suspects()) : NONE;
        tape.length = 0;
        if (!isRight) {
            throw new IllegalArgumentException("the tape does not tell risings");
        }
        return found;
    }

    public int common() {
        return now.families.commonDust();
    }

    public int lovers() {
        return Shares.loversOf(now);
    }

    public int lesson(int n) throws IllegalArgumentException {
        needBetween(n, 1, DAY_HOURS);
        return Shares.lessonOf(now, n);
    }

    public int widows() {
        return Shares.widowsOf(now);
    }

    public int ahead(int n, int what) throws IllegalArgumentException, NoSuchElementException {
        needBetween(n, 0, MOST_AHEAD);
        needWhat(what, 2);
        draft.copyFrom(now);
        for (int i = 0; i < n; i++) {
            draft.passHour(false);
        }
        switch (what) {
            case 0:
                return draft.heat;
            case 1:
                return draft.dirt;
            default:
                return draft.inside();
        }
    }

    public int dusty(int dirt) throws IllegalArgumentException {
        needBetween(dirt, 1, MOST_LEVEL);
        draft.copyFrom(now);
        for (int n = 0; n <= MOST_AHEAD; n++) {
            if (draft.dirt >= dirt) {
                return n;
            }
            draft.passHour(false);
        }
        return NONE;
    }

    public int warmest(int n) throws IllegalArgumentException {
        needBetween(n, 1, MOST_AHEAD);
        draft.copyFrom(now);
        int warmest = 0;
        int most = draft.heat;
        for (int i = 1; i <= n; i++) {
            draft.passHour(false);
            if (draft.heat > most) {
                most = draft.heat;
                warmest = i;
            }
        }
        return warmest;
    }

    public int ruin(int family) throws IndexOutOfBoundsException {
        needFamily(family);
        draft.copyFrom(now);
        for (int n = 0; n <= MOST_AHEAD; n++) {
            if (draft.families.purseOf(family) == 0) {
                return n;
            }
            draft.passHour(false);
        }
        return NONE;
    }

    public int rich() {
        return Worth.richestOf(now);
    }

    public int cramped() {
        return now.things.bulkLeftByOthers(now.inside());
    }

    public int trial(int n, boolean purses) throws IllegalArgumentException {
        needBetween(n, 0, MOST_AHEAD);
        if (!purses) {
            return now.quarrelAfter(n, now.seed);
        }
        draft.copyFrom(now);
        for (int i = 0; i < n; i++) {
            draft.passHour(true);
        }
        return draft.families.allPurses();
    }

    public int span(int n, boolean most) throws IllegalArgumentException {
        needBetween(n, 0, MOST_AHEAD);
        int bound = now.quarrelAfter(n, 1);
        for (int seed = 2; seed <= TRIAL_SEEDS; seed++) {
            int quarrel = now.quarrelAfter(n, seed);
            bound = most ? Math.max(bound, quarrel) : Math.min(bound, quarrel);
        }
        return bound;
    }

    public int led(int family, boolean day) throws IndexOutOfBoundsException {
        needFamily(family);
        return day ? now.log.latestDayOf(family) : now.log.rowsOfFamily(family);
    }

    public int log(int ago, int what) throws NoSuchElementException {
        needWhat(what, Log.WIDTH - 1);
        return now.log.entry(ago, what);
    }

    public int seed(int n) {
        int was = now.seed;
        now.seed = n;
        return was;
    }

    public boolean undo() {
        return memory.takeBack(now);
    }

    public void image() {
        kept.copyFrom(now);
        isKept = true;
    }

    public boolean back() {
        if (!isKept) {
            return false;
        }
        now.copyFrom(kept);
        memory.forget();
        return true;
    }

    public int count(int what) {
        switch (what) {
            case 0:
                return now.families.count;
            case 1:
                return now.things.count;
            case 2:
                return now.texts;
            case 3:
                return now.lawLines();
            case 14:
                return now.things.left;
            case 15:
                return now.inside();
            case 16:
                return now.log.size;
            case 17:
                return memory.size;
            default:
                return now.reading(what);
        }
    }

    private void needHour(int hour) {
        if (hour < 0 || hour >= DAY_HOURS) {
            throw new IndexOutOfBoundsException("there is no such hour");
        }
    }

    private void needFamily(int family) {
        if (!now.families.has(family)) {
            throw new IndexOutOfBoundsException("there is no such family");
        }
    }

    private void needThing(int thing) {
        if (!now.things.has(thing)) {
            throw new IndexOutOfBoundsException("there is no such thing");
        }
    }

    private void needWhat(int what, int most) {
        if (what < 0 || what > most) {
            throw new NoSuchElementException("nothing is told by that number");
        }
    }

    private void needBetween(int n, int least, int most) {
        if (n < least || n > most) {
            throw new IllegalArgumentException("the number is none");
        }
    }

    private void needOther(int first, int second) {
        if (first == second) {
            throw new IllegalArgumentException("both are one");
        }
    }

    private void needThat(boolean can) {
        if (!can) {
            throw new IllegalStateException("it cannot be");
        }
    }

    private boolean tellsRisings() {
        for (int i = 0; i < tape.length; i++) {
            if (tape.byteAt(i) > 9) {
                return false;
            }
        }
        return tape.length <= MOST_RISINGS;
    }

    private int suspects() {
        int suspects = now.families.everyone();
        for (int i = 0; i < tape.length; i++) {
            suspects &= now.families.dusters(tape.byteAt(i));
        }
        return suspects;
    }

    /** Six families and twenty risings make fewer rows than a long can count. */
    private int rowsOfSuspects() {
        long rows = 1;
        for (int i = 0; i < tape.length; i++) {
            rows *= Integer.bitCount(now.families.dusters(tape.byteAt(i)));
        }
        return rows > MOST_ROWS ? MOST_ROWS : (int) rows;
    }

    /** The bytes that were fed and not yet used up, and the place up to which a text of them is read. */
    private static final class Tape {
        static final int MOST_BYTES = 400;

        private static final int BLANK = 32;
        private static final int MOST_DIGITS = 3;

        private final int[] bytes = new int[MOST_BYTES];
        int length = 0;
        /** Always the begin of a thing, or the length. */
        private int at = 0;
        private int wrong = NONE;

        void append(int number) {
            for (int shift = 24; shift >= 0 && length < MOST_BYTES; shift -= 8) {
                bytes[length] = (number >>> shift) & 255;
                length++;
            }
        }

        int byteAt(int place) {
            return place >= 0 && place < length && place < MOST_BYTES ? bytes[place] : NONE;
        }

        void beginText() {
            at = 0;
            wrong = NONE;
            skipBlanks();
        }

        int firstWrong() {
            return wrong;
        }

        /** Whether another line must come behind this one; the end and a wrong byte end all lines. */
        boolean goesOn() {
            return wrong == NONE && at < length;
        }

        /** What comes next cannot stand there; behind the first such thing nothing is found any more. */
        void refuse() {
            if (wrong == NONE) {
                wrong = at;
            }
        }

        boolean takeWord(String word) {
            int behind = at + word.length();
            if (wrong != NONE || behind > length || isLetter(byteAt(behind))) {
                return false;
            }
            for (int i = 0; i < word.length(); i++) {
                if (byteAt(at + i) != word.charAt(i)) {
                    return false;
                }
            }
            at = behind;
            skipBlanks();
            return true;
        }

        void needWord(String word) {
            if (!takeWord(word)) {
                refuse();
            }
        }

        boolean takeSign(char sign) {
            if (wrong != NONE || byteAt(at) != sign) {
                return false;
            }
            at++;
            skipBlanks();
            return true;
        }

        void needSign(char sign) {
            if (!takeSign(sign)) {
                refuse();
            }
        }

        boolean seesNumber() {
            return wrong == NONE && isDigit(byteAt(at));
        }

        int takeNumber(int least, int most) {
            int behind = at;
            int value = 0;
            while (behind < length && isDigit(byteAt(behind))) {
                if (behind - at < MOST_DIGITS) {
                    value = value * 10 + byteAt(behind) - '0';
                }
                behind++;
            }
            int digits = behind - at;
            if (digits < 1 || digits > MOST_DIGITS || value < least || value > most) {
                refuse();
                return least;
            }
            at = behind;
            skipBlanks();
            return value;
        }

        private void skipBlanks() {
            while (at < length && at < MOST_BYTES && bytes[at] == BLANK) {
                at++;
            }
        }

        private static boolean isLetter(int sign) {
            return sign >= 'a' && sign <= 'z';
        }

        private static boolean isDigit(int sign) {
            return sign >= '0' && sign <= '9';
        }
    }

    /** Reads a text of the deed into a house that is thrown away if the text is wrong. */
    private static final class DeedReader {
        private static final int MOST_LINES = 14;

        /** The first wrong byte. */
        static int readInto(House house, Tape text) {
            text.beginText();
            boolean needsLine = text.goesOn();
            for (int line = 0; needsLine && line < MOST_LINES; line++) {
                readLine(house, text);
                needsLine = text.goesOn();
                if (needsLine) {
                    text.needSign(';');
                }
            }
            if (needsLine) {
                text.refuse();
            }
            return text.firstWrong();
        }

        /** The first word of a family or thing too many is left standing, so that it is the wrong one. */
        private static void readLine(House house, Tape text) {
            if (house.families.hasRoom() && text.takeWord("family")) {
                readFamily(house, text);
            } else if (house.things.hasRoom() && text.takeWord("thing")) {
                readThing(house, text);
            } else if (text.takeWord("hours")) {
                int family = readFamilyNumber(house, text);
                house.giveHours(readHours(text), family);
            } else if (text.takeWord("free")) {
                house.giveHours(readHours(text), NONE);
            } else if (text.takeWord("wishes")) {
                int family = readFamilyNumber(house, text);
                house.families.addWishes(family, readHours(text));
            } else {
                readSetting(house, text);
            }
        }

        private static void readSetting(House house, Tape text) {
            if (text.takeWord("cold")) {
                house.cold = text.takeNumber(0, 9);
            } else if (text.takeWord("fine")) {
                house.fine = text.takeNumber(0, 20);
            } else if (text.takeWord("price")) {
                house.price = text.takeNumber(0, 99);
            } else if (text.takeWord("guests")) {
                house.guests = text.takeNumber(0, 100);
            } else if (text.takeWord("hour")) {
                house.hour = text.takeNumber(0, DAY_HOURS - 1);
            } else {
                text.refuse();
            }
        }

        private static void readFamily(House house, Tape text) {
            text.needWord("purse");
            int purse = text.takeNumber(0, 999);
            text.needWord("dust");
            int dust = text.takeNumber(0, 9);
            text.needWord("stove");
            int stove = text.takeNumber(0, 9);
            int family = house.families.found(purse, dust, stove);
            if (text.takeWord("hours")) {
                house.giveHours(readHours(text), family);
            }
            if (text.takeWord("wishes")) {
                house.families.addWishes(family, readHours(text));
            }
        }

        private static void readThing(House house, Tape text) {
            int family = readFamilyNumber(house, text);
            text.needWord("bulk");
            int bulk = text.takeNumber(1, 9);
            house.things.bring(family, bulk, text.takeWord("left"));
        }

        private static int readFamilyNumber(House house, Tape text) {
            return text.takeNumber(0, house.families.count - 1);
        }

        private static int readHours(Tape text) {
            int from = text.takeNumber(0, DAY_HOURS - 1);
            text.needWord("to");
            int to = text.takeNumber(0, DAY_HOURS - 1);
            int hours = Math.floorMod(to - from, DAY_HOURS) + 1;
            int bits = 0;
            for (int i = 0; i < hours; i++) {
                bits |= 1 << ((from + i) % DAY_HOURS);
            }
            return bits;
        }
    }

    /** Reads a text of the law; conditions become code in which each sign stands behind what it joins. */
    private static final class LawReader {
        private static final int MOST_LINES = 12;
        private static final int MOST_DEPTH = 6;

        private final int[] kinds = new int[MOST_LINES];
        private final int[] amounts = new int[MOST_LINES];
        private final int[] ends = new int[MOST_LINES];
        private final int[] code = new int[Tape.MOST_BYTES];
        private int lines = 0;
        private int length = 0;

        /** The first wrong byte. */
        int readText(Tape text) {
            text.beginText();
            lines = 0;
            length = 0;
            boolean needsLine = text.goesOn();
            for (int line = 0; needsLine && line < MOST_LINES; line++) {
                kinds[line] = readKind(text);
                amounts[line] = text.takeNumber(0, 20);
                if (text.takeWord("if")) {
                    readCondition(text, 0);
                }
                ends[line] = length;
                lines = line + 1;
                needsLine = text.goesOn();
                if (needsLine) {
                    text.needSign(';');
                }
            }
            if (needsLine) {
                text.refuse();
            }
            return text.firstWrong();
        }

        Law lawRead() {
            return new Law(lines, kinds, amounts, ends, Arrays.copyOf(code, length));
        }

        private int readKind(Tape text) {
            if (text.takeWord("warm")) {
                return Law.WARM;
            }
            if (text.takeWord("dust")) {
                return Law.DUST;
            }
            text.needWord("fine");
            return Law.FINE;
        }

        /** Joins by or wait for what is joined by and. */
        private void readCondition(Tape text, int depth) {
            boolean orWaits = false;
            readAtom(text, depth);
            for (int i = 0; i < Tape.MOST_BYTES; i++) {
                if (text.takeWord("and")) {
                    readAtom(text, depth);
                    put(Law.AND);
                } else if (text.takeWord("or")) {
                    if (orWaits) {
                        put(Law.OR);
                    }
                    orWaits = true;
                    readAtom(text, depth);
                } else {
                    break;
                }
            }
            if (orWaits) {
                put(Law.OR);
            }
        }

        /** What would go too deep is left standing, so that it is the wrong one. */
        private void readAtom(Tape text, int depth) {
            if (depth < MOST_DEPTH && text.takeWord("not")) {
                readAtom(text, depth + 1);
                put(Law.NOT);
            } else if (depth < MOST_DEPTH && text.takeSign('(')) {
                readCondition(text, depth + 1);
                text.needSign(')');
            } else if (text.takeWord("night")) {
                put(Law.NIGHT);
            } else if (text.takeWord("wished")) {
                put(Law.WISHED);
            } else {
                readSum(text);
                boolean less = text.takeSign('<');
                if (!less) {
                    text.needSign('>');
                }
                readSum(text);
                put(less ? Law.LESS : Law.MORE);
            }
        }

        private void readSum(Tape text) {
            readPart(text);
            for (int i = 0; i < Tape.MOST_BYTES && text.takeSign('+'); i++) {
                readPart(text);
                put(Law.PLUS);
            }
        }

        private void readPart(Tape text) {
            if (text.seesNumber()) {
                put(text.takeNumber(0, 999));
            } else if (text.takeWord("family")) {
                put(Law.FAMILY);
            } else if (text.takeWord("hour")) {
                put(Law.HOUR);
            } else if (text.takeWord("heat")) {
                put(Law.HEAT);
            } else if (text.takeWord("dirt")) {
                put(Law.DIRT);
            } else if (text.takeWord("quarrel")) {
                put(Law.QUARREL);
            } else if (text.takeWord("left")) {
                put(Law.LEFT);
            } else {
                text.refuse();
            }
        }

        /** Every step comes of a byte of its own, so that the code never has more steps than the tape bytes. */
        private void put(int step) {
            if (length < code.length) {
                code[length] = step;
                length++;
            }
        }
    }

    /** A law that was read; it never changes, so that houses may share it. */
    private static final class Law {
        static final int WARM = 0;
        static final int DUST = 1;
        static final int FINE = 2;

        /** A step of 0 or more is a number; -1 to -8 tell what is seen, at the place -1 - step. */
        static final int FAMILY = -1;
        static final int HOUR = -2;
        static final int HEAT = -3;
        static final int DIRT = -4;
        static final int QUARREL = -5;
        static final int LEFT = -6;
        static final int NIGHT = -7;
        static final int WISHED = -8;
        static final int NOT = -9;
        static final int PLUS = -10;
        static final int LESS = -11;
        static final int MORE = -12;
        static final int AND = -13;
        static final int OR = -14;

        static final int MOST_SEEN = 8;

        /** Six levels of brackets with two open joins each, and a comparison, need 17. */
        private static final int STACK = 32;

        final int lines;
        private final int[] kinds;
        private final int[] amounts;
        private final int[] ends;
        private final int[] code;
        private final int[] stack = new int[STACK];

        Law(int lines, int[] kinds, int[] amounts, int[] ends, int[] code) {
            this.lines = lines;
            this.kinds = Arrays.copyOf(kinds, lines);
            this.amounts = Arrays.copyOf(amounts, lines);
            this.ends = Arrays.copyOf(ends, lines);
            this.code = code;
        }

        int sumOf(int kind, int[] seen) {
            int sum = 0;
            int from = 0;
            for (int line = 0; line < lines; line++) {
                int to = ends[line];
                if (kinds[line] == kind && isTrue(from, to, seen)) {
                    sum += amounts[line];
                }
                from = to;
            }
            return sum;
        }

        private boolean isTrue(int from, int to, int[] seen) {
            int top = 0;
            for (int i = from; i < to && i < code.length; i++) {
                int step = code[i];
                if (step <= PLUS && top >= 2) {
                    top--;
                    stack[top - 1] = joined(step, stack[top - 1], stack[top]);
                } else if (step == NOT && top >= 1) {
                    stack[top - 1] = 1 - stack[top - 1];
                } else if (top < STACK) {
                    stack[top] = valueOf(step, seen);
                    top++;
                }
            }
            return from == to || stack[0] == 1;
        }

        private static int joined(int step, int first, int second) {
            switch (step) {
                case PLUS:
                    return first + second;
                case LESS:
                    return first < second ? 1 : 0;
                case MORE:
                    return first > second ? 1 : 0;
                case AND:
                    return first & second;
                default:
                    return first | second;
            }
        }

        private static int valueOf(int step, int[] seen) {
            int place = -1 - step;
            return place >= 0 && place < seen.length ? seen[place] : step;
        }
    }

    private static final class Families {
        final int[] purse = new int[MOST_FAMILIES];
        final int[] dust = new int[MOST_FAMILIES];
        final int[] stove = new int[MOST_FAMILIES];
        final int[] wishes = new int[MOST_FAMILIES];
        int count = 0;

        void copyFrom(Families other) {
            System.arraycopy(other.purse, 0, purse, 0, MOST_FAMILIES);
            System.arraycopy(other.dust, 0, dust, 0, MOST_FAMILIES);
            System.arraycopy(other.stove, 0, stove, 0, MOST_FAMILIES);
            System.arraycopy(other.wishes, 0, wishes, 0, MOST_FAMILIES);
            count = other.count;
        }

        boolean has(int family) {
            return family >= 0 && family < count && family < MOST_FAMILIES;
        }

        boolean hasRoom() {
            return count < MOST_FAMILIES;
        }

        int everyone() {
            return (1 << count) - 1;
        }

        int found(int itsPurse, int itsDust, int itsStove) {
            if (!hasRoom()) {
                return NONE;
            }
            purse[count] = itsPurse;
            dust[count] = itsDust;
            stove[count] = itsStove;
            wishes[count] = 0;
            count++;
            return count - 1;
        }

        void addWishes(int family, int hours) {
            if (has(family)) {
                wishes[family] |= hours;
            }
        }

        boolean doesWish(int family, int hour) {
            return has(family) && ((wishes[family] >> hour) & 1) == 1;
        }

        int wishedBy(int set) {
            int wished = 0;
            for (int family = 0; family < count; family++) {
                if (((set >> family) & 1) == 1) {
                    wished |= wishes[family];
                }
            }
            return wished;
        }

        int purseOf(int family) {
            return has(family) ? purse[family] : 0;
        }

        void pay(int family, int sum) {
            if (has(family)) {
                purse[family] = Math.max(0, purse[family] - sum);
            }
        }

        void earn(int family, int sum) {
            if (has(family)) {
                purse[family] = Math.min(MOST_PURSE, purse[family] + sum);
            }
        }

        int allPurses() {
            int sum = 0;
            for (int family = 0; family < count; family++) {
                sum += purse[family];
            }
            return sum;
        }

        int dusters(int rising) {
            int set = 0;
            for (int family = 0; family < count; family++) {
                if (dust[family] == rising) {
                    set |= 1 << family;
                }
            }
            return set;
        }

        int commonDust() {
            int best = 0;
            for (int made = 1; made <= 9; made++) {
                if (Integer.bitCount(dusters(made)) > Integer.bitCount(dusters(best))) {
                    best = made;
                }
            }
            return best;
        }
    }

    private static final class Things {
        final int[] owner = new int[MOST_THINGS];
        final int[] bulk = new int[MOST_THINGS];
        int left = 0;
        int count = 0;

        void copyFrom(Things other) {
            System.arraycopy(other.owner, 0, owner, 0, MOST_THINGS);
            System.arraycopy(other.bulk, 0, bulk, 0, MOST_THINGS);
            left = other.left;
            count = other.count;
        }

        boolean has(int thing) {
            return thing >= 0 && thing < count && thing < MOST_THINGS;
        }

        boolean hasRoom() {
            return count < MOST_THINGS;
        }

        void bring(int family, int itsBulk, boolean isLeft) {
            if (!hasRoom()) {
                return;
            }
            owner[count] = family;
            bulk[count] = itsBulk;
            if (isLeft) {
                putDown(count);
            }
            count++;
        }

        boolean isLeft(int thing) {
            return ((left >> thing) & 1) == 1;
        }

        void putDown(int thing) {
            left |= 1 << thing;
        }

        void takeAlong(int thing) {
            left &= ~(1 << thing);
        }

        int bulkLeft() {
            return bulkLeftByOthers(NONE);
        }

        int bulkLeftByOthers(int family) {
            int sum = 0;
            for (int thing = 0; thing < count; thing++) {
                if (((left >> thing) & 1) == 1 && owner[thing] != family) {
                    sum += bulk[thing];
                }
            }
            return sum;
        }
    }

    /** The latest rows of quarrels and fines, in a ring. */
    private static final class Log {
        static final int WIDTH = 5;
        static final int QUARRELLED = 0;
        static final int FINED = 1;

        private static final int MOST_LOGGED = 60;
        private static final int DAY_AT = 0;
        private static final int FAMILY_AT = 2;

        private final int[] cells = new int[MOST_LOGGED * WIDTH];
        private int next = 0;
        int size = 0;

        void copyFrom(Log other) {
            System.arraycopy(other.cells, 0, cells, 0, MOST_LOGGED * WIDTH);
            next = other.next;
            size = other.size;
        }

        void append(int day, int hour, int family, int kind, int amount) {
            int at = next * WIDTH;
            if (at < 0 || at + WIDTH > cells.length) {
                return;
            }
            cells[at] = day;
            cells[at + 1] = hour;
            cells[at + 2] = family;
            cells[at + 3] = kind;
            cells[at + 4] = amount;
            next = (next + 1) % MOST_LOGGED;
            size = Math.min(size + 1, MOST_LOGGED);
        }

        int entry(int ago, int what) {
            if (ago < 0 || ago >= size || what < 0 || what >= WIDTH) {
                return NONE;
            }
            return cells[Math.floorMod(next - 1 - ago, MOST_LOGGED) * WIDTH + what];
        }

        int rowsOfFamily(int family) {
            int rows = 0;
            for (int ago = 0; ago < size; ago++) {
                if (entry(ago, FAMILY_AT) == family) {
                    rows++;
                }
            }
            return rows;
        }

        int latestDayOf(int family) {
            for (int ago = 0; ago < size; ago++) {
                if (entry(ago, FAMILY_AT) == family) {
                    return entry(ago, DAY_AT);
                }
            }
            return NONE;
        }
    }

    /** All that an act, a text or an image may change. */
    private static final class House {
        final int[] holder = new int[DAY_HOURS];
        final Families families = new Families();
        final Things things = new Things();
        final Log log = new Log();
        /** What the law is asked about; it is made anew for each question. */
        private final int[] seen = new int[Law.MOST_SEEN];
        Law law = null;
        int texts = 0;
        int hour = 0;
        int day = 0;
        int heat = 10;
        int dirt = 0;
        int quarrel = 0;
        int quarreller = NONE;
        int cold = 1;
        int fine = 2;
        int price = 10;
        int guests = 0;
        int seed = 1;

        House() {
            Arrays.fill(holder, NONE);
        }

        void copyFrom(House other) {
            System.arraycopy(other.holder, 0, holder, 0, DAY_HOURS);
            families.copyFrom(other.families);
            things.copyFrom(other.things);
            log.copyFrom(other.log);
            law = other.law;
            texts = other.texts;
            hour = other.hour;
            day = other.day;
            heat = other.heat;
            dirt = other.dirt;
            quarrel = other.quarrel;
            quarreller = other.quarreller;
            cold = other.cold;
            fine = other.fine;
            price = other.price;
            guests = other.guests;
            seed = other.seed;
        }

        /** The numbers 4 to 13 of count(). */
        int reading(int what) {
            switch (what) {
                case 4:
                    return hour;
                case 5:
                    return day;
                case 6:
                    return heat;
                case 7:
                    return dirt;
                case 8:
                    return quarrel;
                case 9:
                    return quarreller;
                case 10:
                    return cold;
                case 11:
                    return fine;
                case 12:
                    return price;
                case 13:
                    return guests;
                default:
                    return NONE;
            }
        }

        int lawLines() {
            return law == null ? NONE : law.lines;
        }

        int holderAt(int time) {
            return holder[Math.floorMod(time, DAY_HOURS)];
        }

        int inside() {
            return holderAt(hour);
        }

        int heldBy(int set) {
            int held = 0;
            for (int at = 0; at < DAY_HOURS; at++) {
                if (holder[at] != NONE && ((set >> holder[at]) & 1) == 1) {
                    held |= 1 << at;
                }
            }
            return held;
        }

        void giveHours(int hours, int family) {
            for (int at = 0; at < DAY_HOURS; at++) {
                if (((hours >> at) & 1) == 1) {
                    holder[at] = family;
                }
            }
        }

        int warmsBy(int family, int at) {
            if (!families.has(family)) {
                return 0;
            }
            look(family, at);
            return families.stove[family] + (law == null ? 0 : law.sumOf(Law.WARM, seen));
        }

        int dustsBy(int family, int at) {
            if (!families.has(family)) {
                return 0;
            }
            look(family, at);
            return families.dust[family] + (law == null ? 0 : law.sumOf(Law.DUST, seen));
        }

        int finedBy(int thing) {
            if (!things.has(thing)) {
                return 0;
            }
            look(things.owner[thing], hour);
            return fine * things.bulk[thing] + (law == null ? 0 : law.sumOf(Law.FINE, seen));
        }

        private void look(int family, int at) {
            seen[-1 - Law.FAMILY] = family;
            seen[-1 - Law.HOUR] = at;
            seen[-1 - Law.HEAT] = heat;
            seen[-1 - Law.DIRT] = dirt;
            seen[-1 - Law.QUARREL] = quarrel;
            seen[-1 - Law.LEFT] = things.bulkLeft();
            seen[-1 - Law.NIGHT] = (NIGHT_HOURS >> at) & 1;
            seen[-1 - Law.WISHED] = families.doesWish(family, at) ? 1 : 0;
        }

        /** How many things were fined. */
        int passHour(boolean withVisitors) {
            int in = inside();
            if (in != NONE) {
                int warms = warmsBy(in, hour);
                int dusts = dustsBy(in, hour);
                heat = Math.min(MOST_LEVEL, heat + warms);
                dirt = Math.min(MOST_LEVEL, dirt + dusts);
            }
            heat = Math.max(0, heat - cold);
            if (withVisitors) {
                letVisitorsIn(in);
            }
            turnClock();
            return in != NONE && in != inside() ? fineThingsOf(in) : 0;
        }

        private void letVisitorsIn(int in) {
            seed = nextSeed(seed);
            if (in != NONE && bringsQuarrel(seed)) {
                quarrel = Math.min(MOST_QUARREL, quarrel + 1);
                quarreller = in;
                log.append(day, hour, in, Log.QUARRELLED, quarrel);
            }
        }

        private void turnClock() {
            hour++;
            if (hour >= DAY_HOURS) {
                hour = 0;
                day = Math.min(MOST_DAY, day + 1);
            }
        }

        private int fineThingsOf(int family) {
            int fined = 0;
            for (int thing = 0; thing < things.count; thing++) {
                if (things.owner[thing] == family && things.isLeft(thing)) {
                    int sum = finedBy(thing);
                    families.pay(family, sum);
                    things.takeAlong(thing);
                    log.append(day, hour, family, Log.FINED, sum);
                    fined++;
                }
            }
            return fined;
        }

        /** Quarrels hang on draws and on who is in alone, so that the law need not be asked. */
        int quarrelAfter(int hours, int fromSeed) {
            int drawn = fromSeed;
            int then = quarrel;
            for (int i = 0; i < hours; i++) {
                drawn = nextSeed(drawn);
                if (holderAt(hour + i) != NONE && bringsQuarrel(drawn)) {
                    then = Math.min(MOST_QUARREL, then + 1);
                }
            }
            return then;
        }

        private static int nextSeed(int seed) {
            return 1103515245 * seed + 12345;
        }

        private boolean bringsQuarrel(int drawn) {
            return ((drawn >>> 16) & 0x7FFF) % 100 < guests;
        }
    }

    /** The houses ahead of the latest acts, in a ring. */
    private static final class Memory {
        private static final int MOST_ACTS = 12;

        private final House[] before = new House[MOST_ACTS];
        private int next = 0;
        int size = 0;

        Memory() {
            for (int i = 0; i < MOST_ACTS; i++) {
                before[i] = new House();
            }
        }

        void keep(House house) {
            before[next].copyFrom(house);
            next = (next + 1) % MOST_ACTS;
            size = Math.min(size + 1, MOST_ACTS);
        }

        boolean takeBack(House house) {
            if (size == 0) {
                return false;
            }
            next = (next + MOST_ACTS - 1) % MOST_ACTS;
            size--;
            house.copyFrom(before[next]);
            return true;
        }

        void forget() {
            size = 0;
        }
    }

    /** Who has which hours, next to whom, and how they could be dealt, swapped and bought. */
    private static final class Shares {
        static int longestRow(int hours) {
            int ends = hours;
            int row = 0;
            while (ends != 0 && row < DAY_HOURS) {
                ends = hours & hourLater(ends);
                row++;
            }
            return row;
        }

        private static int hourLater(int hours) {
            return ((hours << 1) | (hours >> (DAY_HOURS - 1))) & ALL_HOURS;
        }

        private static int hourSooner(int hours) {
            return ((hours >> 1) | (hours << (DAY_HOURS - 1))) & ALL_HOURS;
        }

        static int comesIn(House house, int family) {
            for (int wait = 0; wait < DAY_HOURS; wait++) {
                if (house.holderAt(house.hour + wait) == family) {
                    return wait;
                }
            }
            return NONE;
        }

        static int changesOf(House house) {
            int changes = 0;
            for (int hour = 0; hour < DAY_HOURS; hour++) {
                if (house.holderAt(hour) != house.holderAt(hour + 1)) {
                    changes++;
                }
            }
            return changes;
        }

        static int meetings(House house, int family, int other) {
            int its = house.heldBy(1 << family);
            int others = house.heldBy(1 << other);
            return (its & hourSooner(others)) | (others & hourSooner(its));
        }

        static int gapsOf(House house) {
            return ALL_HOURS & ~house.heldBy(house.families.everyone());
        }

        static int loversOf(House house) {
            int lovers = 0;
            for (int other = 1; other < house.families.count; other++) {
                for (int family = 0; family < other; family++) {
                    if (Integer.bitCount(meetings(house, family, other)) >= 2) {
                        lovers++;
                    }
                }
            }
            return lovers;
        }

        static int lessonOf(House house, int n) {
            int starts = 0;
            for (int family = 0; family < house.families.count; family++) {
                int glad = house.heldBy(1 << family) & house.families.wishes[family];
                starts |= startsOfRows(glad, n);
            }
            for (int hour = 0; hour < DAY_HOURS; hour++) {
                if (((starts >> hour) & 1) == 1) {
                    return hour;
                }
            }
            return NONE;
        }

        private static int startsOfRows(int hours, int n) {
            int starts = hours;
            for (int row = 1; row < n; row++) {
                starts = hours & hourSooner(starts);
            }
            return starts;
        }

        static int widowsOf(House house) {
            int widows = 0;
            for (int family = 0; family < house.families.count; family++) {
                if (Integer.bitCount(house.heldBy(1 << family)) == 1) {
                    widows |= 1 << family;
                }
            }
            return widows;
        }

        /** The most is as small as the narrowest pass: some families' wishes and all other ones' shares. */
        static int mostDealt(House house) {
            int everyone = house.families.everyone();
            int most = DAY_HOURS;
            for (int set = 0; set <= everyone; set++) {
                int wished = Integer.bitCount(house.families.wishedBy(set));
                int shares = Integer.bitCount(house.heldBy(everyone & ~set));
                most = Math.min(most, wished + shares);
            }
            return most;
        }

        static int bestSwap(House house) {
            int best = NONE;
            int most = 0;
            for (int hour = 0; hour < DAY_HOURS; hour++) {
                for (int other = hour + 1; other < DAY_HOURS; other++) {
                    int gain = swapGain(house, hour, other);
                    if (gain > most) {
                        most = gain;
                        best = DAY_HOURS * hour + other;
                    }
                }
            }
            return best;
        }

        /** How much gladder both are; 0 for a swap that cannot be or that one of them would not want. */
        private static int swapGain(House house, int hour, int other) {
            int first = house.holderAt(hour);
            int second = house.holderAt(other);
            if (first == NONE || second == NONE || first == second) {
                return 0;
            }
            int firstGain = moveGain(house, first, hour, other);
            int secondGain = moveGain(house, second, other, hour);
            return firstGain < 0 || secondGain < 0 ? 0 : firstGain + secondGain;
        }

        private static int moveGain(House house, int family, int from, int to) {
            int had = house.families.doesWish(family, from) ? 1 : 0;
            int has = house.families.doesWish(family, to) ? 1 : 0;
            return has - had;
        }

        /** Everyone's hours in one row each: as many changes as rows, but one row alone never changes. */
        static int fewestChanges(House house) {
            int rows = gapsOf(house) == 0 ? 0 : 1;
            for (int family = 0; family < house.families.count; family++) {
                if (house.heldBy(1 << family) != 0) {
                    rows++;
                }
            }
            return rows < 2 ? 0 : rows;
        }

        /** Of each row of another one every second hour must be bought. */
        static int cornerOf(House house, int family) {
            if (changesOf(house) == 0) {
                return isOthers(house, 0, family) ? DAY_HOURS / 2 : 0;
            }
            int bought = 0;
            for (int hour = 0; hour < DAY_HOURS; hour++) {
                if (isOthers(house, hour, family) && house.holderAt(hour - 1) != house.holderAt(hour)) {
                    bought += rowFrom(house, hour) / 2;
                }
            }
            return bought;
        }

        private static boolean isOthers(House house, int hour, int family) {
            int holder = house.holderAt(hour);
            return holder != NONE && holder != family;
        }

        private static int rowFrom(House house, int hour) {
            int row = 1;
            while (row < DAY_HOURS && house.holderAt(hour + row) == house.holderAt(hour)) {
                row++;
            }
            return row;
        }
    }

    /** What hours are worth, to families together and to each. */
    private static final class Worth {
        static int worthOf(House house, int set) {
            int held = house.heldBy(set);
            int byDay = held & ~NIGHT_HOURS;
            int wished = byDay & house.families.wishedBy(set);
            return 3 * Integer.bitCount(held & NIGHT_HOURS) + Integer.bitCount(byDay) + Integer.bitCount(wished);
        }

        static int partOf(House house, int family, int sum) {
            int everyone = house.families.everyone();
            int count = house.families.count;
            int total = worthOf(house, everyone);
            if (total <= 0) {
                return 0;
            }
            long grown = 0;
            for (int set = 0; set <= everyone; set++) {
                if (((set >> family) & 1) == 0) {
                    int earlier = Integer.bitCount(set);
                    int growth = worthOf(house, set | (1 << family)) - worthOf(house, set);
                    grown += ordersOf(earlier) * ordersOf(count - 1 - earlier) * growth;
                }
            }
            return (int) (100L * sum * grown / (ordersOf(count) * total));
        }

        private static long ordersOf(int count) {
            long orders = 1;
            for (int i = 2; i <= count; i++) {
                orders *= i;
            }
            return orders;
        }

        static int settledBids(House house, int family, int other, int hour) {
            int settled = 0;
            for (int first = 0; first <= 1; first++) {
                for (int second = 0; second <= 1; second++) {
                    if (staysWith(house, family, hour, first, second) && staysWith(house, other, hour, second, first)) {
                        settled |= 1 << (2 * first + second);
                    }
                }
            }
            return settled;
        }

        private static boolean staysWith(House house, int family, int hour, int own, int against) {
            return bidGain(house, family, hour, own, against) >= bidGain(house, family, hour, 1 - own, against);
        }

        /** Bids are compared as sums, for at a price of 0 all are alike. */
        private static int bidGain(House house, int family, int hour, int own, int against) {
            int bid = house.price * (1 + own);
            if (bid <= house.price * (1 + against)) {
                return 0;
            }
            return (house.families.doesWish(family, hour) ? 30 : 15) - bid;
        }

        static int richestOf(House house) {
            int richest = NONE;
            int most = NONE;
            for (int family = 0; family < house.families.count; family++) {
                int hours = Integer.bitCount(house.heldBy(1 << family));
                int riches = house.families.purse[family] + house.price * hours;
                if (riches > most) {
                    most = riches;
                    richest = family;
                }
            }
            return richest;
        }
    }
}
