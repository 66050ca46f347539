import java.util.ArrayDeque;
import java.util.ArrayList;
import java.util.Arrays;
import java.util.Deque;
import java.util.List;
import java.util.NoSuchElementException;

/** The document once more, by the most naive ways, for comparison. */
final class Model {
    static final class Fam {
        int purse;
        int dust;
        int stove;
        boolean[] wish = new boolean[24];

        Fam copy() {
            Fam f = new Fam();
            f.purse = purse;
            f.dust = dust;
            f.stove = stove;
            f.wish = wish.clone();
            return f;
        }
    }

    static final class Thing {
        int family;
        int bulk;
        boolean left;

        Thing copy() {
            Thing t = new Thing();
            t.family = family;
            t.bulk = bulk;
            t.left = left;
            return t;
        }
    }

    interface Cond {
        boolean holds(State s, int family, int hour);
    }

    interface Num {
        int value(State s, int family, int hour);
    }

    record Line(String kind, int n, Cond cond) {
    }

    static final class State {
        Integer[] hold = new Integer[24];
        List<Fam> fams = new ArrayList<>();
        List<Thing> things = new ArrayList<>();
        List<Line> law = null;
        List<int[]> log = new ArrayList<>();
        int texts;
        int hour;
        int day;
        int heat = 10;
        int dirt;
        int quarrel;
        int of = -1;
        int cold = 1;
        int fine = 2;
        int price = 10;
        int guests;
        int seed = 1;

        State copy() {
            State s = new State();
            s.hold = hold.clone();
            for (Fam f : fams) {
                s.fams.add(f.copy());
            }
            for (Thing t : things) {
                s.things.add(t.copy());
            }
            s.law = law;
            s.log = new ArrayList<>(log);
            s.texts = texts;
            s.hour = hour;
            s.day = day;
            s.heat = heat;
            s.dirt = dirt;
            s.quarrel = quarrel;
            s.of = of;
            s.cold = cold;
            s.fine = fine;
            s.price = price;
            s.guests = guests;
            s.seed = seed;
            return s;
        }

        int in() {
            return hold[hour] == null ? -1 : hold[hour];
        }

        int left() {
            int sum = 0;
            for (Thing t : things) {
                sum += t.left ? t.bulk : 0;
            }
            return sum;
        }

        int byLaw(String kind, int family, int at) {
            int sum = 0;
            if (law != null) {
                for (Line line : law) {
                    if (line.kind().equals(kind) && line.cond().holds(this, family, at)) {
                        sum += line.n();
                    }
                }
            }
            return sum;
        }

        int fined(Thing t) {
            return fine * t.bulk + byLaw("fine", t.family, hour);
        }

        int pass(boolean draws) {
            int in = in();
            if (in >= 0) {
                int w = fams.get(in).stove + byLaw("warm", in, hour);
                int d = fams.get(in).dust + byLaw("dust", in, hour);
                heat = Math.min(99, heat + w);
                dirt = Math.min(99, dirt + d);
            }
            heat = Math.max(0, heat - cold);
            if (draws) {
                seed = seed * 1103515245 + 12345;
                int draw = (seed & 0x7FFFFFFF) >> 16;
                if (draw % 100 < guests && in >= 0) {
                    quarrel = Math.min(9, quarrel + 1);
                    of = in;
                    log.add(new int[] {day, hour, in, 0, quarrel});
                }
            }
            hour++;
            if (hour == 24) {
                hour = 0;
                day = Math.min(9999, day + 1);
            }
            int fines = 0;
            if (in >= 0 && in() != in) {
                for (Thing t : things) {
                    if (t.family == in && t.left) {
                        int f = fined(t);
                        fams.get(in).purse = Math.max(0, fams.get(in).purse - f);
                        t.left = false;
                        log.add(new int[] {day, hour, in, 1, f});
                        fines++;
                    }
                }
            }
            while (log.size() > 60) {
                log.remove(0);
            }
            return fines;
        }
    }

    /** A text is wrong from here on. */
    static final class Wrong extends RuntimeException {
        private static final long serialVersionUID = 1L;
        final int at;

        Wrong(int at) {
            this.at = at;
        }
    }

    record Token(int at, String text) {
    }

    /** Words, numbers and single signs, then an empty one at the text's length. */
    static List<Token> tokens(byte[] bytes) {
        String text = new String(bytes, java.nio.charset.StandardCharsets.ISO_8859_1);
        List<Token> list = new ArrayList<>();
        java.util.regex.Matcher m = java.util.regex.Pattern.compile("[a-z]+|[0-9]+|[^ ]", java.util.regex.Pattern.DOTALL).matcher(text);
        while (m.find()) {
            list.add(new Token(m.start(), m.group()));
        }
        list.add(new Token(text.length(), ""));
        return list;
    }

    /** Reads tokens, from one to the next. */
    static final class Reading {
        final List<Token> tokens;
        int i = 0;

        Reading(List<Token> tokens) {
            this.tokens = tokens;
        }

        Token peek() {
            return tokens.get(i);
        }

        boolean sees(String text) {
            return peek().text().equals(text);
        }

        Wrong wrong() {
            return new Wrong(peek().at());
        }

        boolean may(String text) {
            if (sees(text)) {
                i++;
                return true;
            }
            return false;
        }

        void must(String text) {
            if (!may(text)) {
                throw wrong();
            }
        }

        boolean seesNumber() {
            return peek().text().matches("[0-9]+");
        }

        int number(int least, int most) {
            if (!peek().text().matches("[0-9]{1,3}")) {
                throw wrong();
            }
            int n = Integer.parseInt(peek().text());
            if (n < least || n > most) {
                throw wrong();
            }
            i++;
            return n;
        }
    }

    byte[] tape = new byte[0];
    int fault = -1;
    State s = new State();
    State image = null;
    final Deque<State> acts = new ArrayDeque<>();

    int feed(int a, int b, int c, int d, int e) {
        if (tape.length + 20 > 400) {
            return -1;
        }
        java.nio.ByteBuffer buffer = java.nio.ByteBuffer.allocate(tape.length + 20);
        buffer.put(tape).putInt(a).putInt(b).putInt(c).putInt(d).putInt(e);
        tape = buffer.array();
        return tape.length;
    }

    boolean end(int n) {
        if (n < 0 || n > tape.length) {
            return false;
        }
        tape = Arrays.copyOf(tape, n);
        return true;
    }

    private byte[] useUp() {
        byte[] used = tape;
        tape = new byte[0];
        return used;
    }

    int deed() {
        State draft = s.copy();
        try {
            Reading r = new Reading(tokens(useUp()));
            for (int line = 0; line > 0 || !r.sees(""); line++) {
                if (line == 14) {
                    throw r.wrong();
                }
                deedLine(r, draft);
                if (r.sees("")) {
                    break;
                }
                r.must(";");
            }
            fault = -1;
        } catch (Wrong e) {
            fault = e.at;
            throw new IllegalArgumentException();
        }
        if (s.texts == 12) {
            throw new UnsupportedOperationException();
        }
        draft.texts++;
        s = draft;
        acts.clear();
        return s.texts;
    }

    private static void deedLine(Reading r, State d) {
        String first = r.peek().text();
        switch (first) {
            case "family" -> {
                if (d.fams.size() == 6) {
                    throw r.wrong();
                }
                r.i++;
                Fam f = new Fam();
                r.must("purse");
                f.purse = r.number(0, 999);
                r.must("dust");
                f.dust = r.number(0, 9);
                r.must("stove");
                f.stove = r.number(0, 9);
                d.fams.add(f);
                if (r.may("hours")) {
                    for (int h : range(r)) {
                        d.hold[h] = d.fams.size() - 1;
                    }
                }
                if (r.may("wishes")) {
                    for (int h : range(r)) {
                        f.wish[h] = true;
                    }
                }
            }
            case "hours" -> {
                r.i++;
                int f = r.number(0, d.fams.size() - 1);
                for (int h : range(r)) {
                    d.hold[h] = f;
                }
            }
            case "free" -> {
                r.i++;
                for (int h : range(r)) {
                    d.hold[h] = null;
                }
            }
            case "wishes" -> {
                r.i++;
                int f = r.number(0, d.fams.size() - 1);
                for (int h : range(r)) {
                    d.fams.get(f).wish[h] = true;
                }
            }
            case "thing" -> {
                if (d.things.size() == 8) {
                    throw r.wrong();
                }
                r.i++;
                Thing t = new Thing();
                t.family = r.number(0, d.fams.size() - 1);
                r.must("bulk");
                t.bulk = r.number(1, 9);
                t.left = r.may("left");
                d.things.add(t);
            }
            case "cold" -> {
                r.i++;
                d.cold = r.number(0, 9);
            }
            case "fine" -> {
                r.i++;
                d.fine = r.number(0, 20);
            }
            case "price" -> {
                r.i++;
                d.price = r.number(0, 99);
            }
            case "guests" -> {
                r.i++;
                d.guests = r.number(0, 100);
            }
            case "hour" -> {
                r.i++;
                d.hour = r.number(0, 23);
            }
            default -> throw r.wrong();
        }
    }

    private static List<Integer> range(Reading r) {
        int from = r.number(0, 23);
        r.must("to");
        int to = r.number(0, 23);
        List<Integer> hours = new ArrayList<>();
        int h = from;
        hours.add(h);
        while (h != to) {
            h = h == 23 ? 0 : h + 1;
            hours.add(h);
        }
        return hours;
    }

    int law() {
        List<Line> lines = new ArrayList<>();
        try {
            Reading r = new Reading(tokens(useUp()));
            while (!r.sees("") || !lines.isEmpty()) {
                if (lines.size() == 12) {
                    throw r.wrong();
                }
                String kind = r.peek().text();
                if (!List.of("warm", "dust", "fine").contains(kind)) {
                    throw r.wrong();
                }
                r.i++;
                int n = r.number(0, 20);
                lines.add(new Line(kind, n, r.may("if") ? any(r, 0) : (s, f, h) -> true));
                if (r.sees("")) {
                    break;
                }
                r.must(";");
            }
            fault = -1;
        } catch (Wrong e) {
            fault = e.at;
            throw new IllegalArgumentException();
        }
        s = s.copy();
        s.law = lines;
        acts.clear();
        return lines.size();
    }

    private static Cond any(Reading r, int depth) {
        List<Cond> parts = new ArrayList<>();
        do {
            parts.add(every(r, depth));
        } while (r.may("or"));
        return (s, f, h) -> parts.stream().anyMatch(c -> c.holds(s, f, h));
    }

    private static Cond every(Reading r, int depth) {
        List<Cond> parts = new ArrayList<>();
        do {
            parts.add(atom(r, depth));
        } while (r.may("and"));
        return (s, f, h) -> parts.stream().allMatch(c -> c.holds(s, f, h));
    }

    private static Cond atom(Reading r, int depth) {
        if (r.sees("not") || r.sees("(")) {
            if (depth == 6) {
                throw r.wrong();
            }
            if (r.may("not")) {
                Cond c = atom(r, depth + 1);
                return (s, f, h) -> !c.holds(s, f, h);
            }
            r.must("(");
            Cond c = any(r, depth + 1);
            r.must(")");
            return c;
        }
        if (r.may("night")) {
            return (s, f, h) -> h < 6 || h > 21;
        }
        if (r.may("wished")) {
            return (s, f, h) -> s.fams.get(f).wish[h];
        }
        Num a = sum(r);
        if (r.may("<")) {
            Num b = sum(r);
            return (s, f, h) -> a.value(s, f, h) < b.value(s, f, h);
        }
        r.must(">");
        Num b = sum(r);
        return (s, f, h) -> a.value(s, f, h) > b.value(s, f, h);
    }

    private static Num sum(Reading r) {
        List<Num> parts = new ArrayList<>();
        do {
            parts.add(part(r));
        } while (r.may("+"));
        return (s, f, h) -> parts.stream().mapToInt(p -> p.value(s, f, h)).sum();
    }

    private static Num part(Reading r) {
        if (r.seesNumber()) {
            int n = r.number(0, 999);
            return (s, f, h) -> n;
        }
        String word = r.peek().text();
        Num num = switch (word) {
            case "family" -> (s, f, h) -> f;
            case "hour" -> (s, f, h) -> h;
            case "heat" -> (s, f, h) -> s.heat;
            case "dirt" -> (s, f, h) -> s.dirt;
            case "quarrel" -> (s, f, h) -> s.quarrel;
            case "left" -> (s, f, h) -> s.left();
            default -> throw r.wrong();
        };
        r.i++;
        return num;
    }

    private void checkHour(int h) {
        if (h < 0 || h > 23) {
            throw new IndexOutOfBoundsException();
        }
    }

    private void checkFam(int f) {
        if (f < 0 || f >= s.fams.size()) {
            throw new IndexOutOfBoundsException();
        }
    }

    private void checkThing(int t) {
        if (t < 0 || t >= s.things.size()) {
            throw new IndexOutOfBoundsException();
        }
    }

    private static void checkArg(boolean ok) {
        if (!ok) {
            throw new IllegalArgumentException();
        }
    }

    private static void checkState(boolean ok) {
        if (!ok) {
            throw new IllegalStateException();
        }
    }

    private static void checkWhat(int what, int most) {
        if (what < 0 || what > most) {
            throw new NoSuchElementException();
        }
    }

    private void act() {
        acts.addLast(s);
        if (acts.size() > 12) {
            acts.removeFirst();
        }
        s = s.copy();
    }

    int who(int h) {
        return s.hold[h] == null ? -1 : s.hold[h];
    }

    int holds(int h) {
        checkHour(h);
        return who(h);
    }

    private int share(int f) {
        int n = 0;
        for (int h = 0; h < 24; h++) {
            n += who(h) == f ? 1 : 0;
        }
        return n;
    }

    int family(int f, int what) {
        checkFam(f);
        checkWhat(what, 8);
        Fam fam = s.fams.get(f);
        int wishes = 0;
        int hours = 0;
        int glad = 0;
        for (int h = 0; h < 24; h++) {
            wishes += fam.wish[h] ? 1 << h : 0;
            hours += who(h) == f ? 1 << h : 0;
            glad += fam.wish[h] && who(h) == f ? 1 : 0;
        }
        return new int[] {fam.purse, fam.dust, fam.stove, wishes, hours, share(f), longest(f), glad, comes(f)}[what];
    }

    private int longest(int f) {
        int best = 0;
        for (int from = 0; from < 24; from++) {
            int n = 0;
            while (n < 24 && who((from + n) % 24) == f) {
                n++;
            }
            best = Math.max(best, n);
        }
        return best;
    }

    private int comes(int f) {
        for (int n = 0; n < 24; n++) {
            if (who((s.hour + n) % 24) == f) {
                return n;
            }
        }
        return -1;
    }

    int does(int f, int h, int what) {
        checkFam(f);
        checkHour(h);
        checkWhat(what, 1);
        return what == 0 ? s.fams.get(f).stove + s.byLaw("warm", f, h) : s.fams.get(f).dust + s.byLaw("dust", f, h);
    }

    int thing(int t, int what) {
        checkThing(t);
        checkWhat(what, 3);
        Thing thing = s.things.get(t);
        return new int[] {thing.family, thing.bulk, thing.left ? 1 : 0, s.fined(thing)}[what];
    }

    int sell(int h, int f) {
        checkHour(h);
        checkFam(f);
        checkArg(who(h) != f);
        checkState(who(h) != -1 && s.fams.get(f).purse >= s.price);
        act();
        Fam seller = s.fams.get(who(h));
        s.fams.get(f).purse -= s.price;
        seller.purse = Math.min(9999, seller.purse + s.price);
        s.hold[h] = f;
        return seller.purse;
    }

    int buy(int h, int f) {
        checkHour(h);
        checkFam(f);
        checkState(who(h) == -1 && s.fams.get(f).purse >= s.price);
        act();
        s.fams.get(f).purse -= s.price;
        s.hold[h] = f;
        return s.fams.get(f).purse;
    }

    int swap(int h, int o) {
        checkHour(h);
        checkHour(o);
        checkArg(h != o);
        checkState(who(h) != -1 && who(o) != -1 && who(h) != who(o));
        act();
        Integer was = s.hold[h];
        s.hold[h] = s.hold[o];
        s.hold[o] = was;
        return who(h);
    }

    int free(int h) {
        checkHour(h);
        checkState(who(h) != -1);
        act();
        int was = who(h);
        s.hold[h] = null;
        return was;
    }

    int leave(int t) {
        checkThing(t);
        checkState(s.things.get(t).family == s.in() && !s.things.get(t).left);
        act();
        s.things.get(t).left = true;
        return s.left();
    }

    int fetch(int t) {
        checkThing(t);
        checkState(s.things.get(t).family == s.in() && s.things.get(t).left);
        act();
        s.things.get(t).left = false;
        return s.left();
    }

    int quiet() {
        checkState(s.in() != -1);
        checkState(s.quarrel > 0 && s.fams.get(s.in()).purse >= s.quarrel);
        act();
        Fam f = s.fams.get(s.in());
        f.purse -= s.quarrel;
        s.quarrel = 0;
        return f.purse;
    }

    int dust() {
        act();
        int was = s.dirt;
        s.dirt = 0;
        return was;
    }

    int hours(int n) {
        checkArg(n >= 1 && n <= 100);
        act();
        int fined = 0;
        for (int i = 0; i < n; i++) {
            fined += s.pass(true);
        }
        return fined;
    }

    int changes() {
        int n = 0;
        for (int h = 0; h < 24; h++) {
            n += who(h) == who((h + 1) % 24) ? 0 : 1;
        }
        return n;
    }

    int met(int f, int o) {
        checkFam(f);
        checkFam(o);
        checkArg(f != o);
        int bits = 0;
        for (int h = 0; h < 24; h++) {
            int next = who((h + 1) % 24);
            if (who(h) == f && next == o || who(h) == o && next == f) {
                bits |= 1 << h;
            }
        }
        return bits;
    }

    int gaps() {
        int bits = 0;
        for (int h = 0; h < 24; h++) {
            bits |= who(h) == -1 ? 1 << h : 0;
        }
        return bits;
    }

    /** By paths along which hours change hands. */
    int deal() {
        int[] to = new int[24];
        Arrays.fill(to, -1);
        int n = 0;
        for (int h = 0; h < 24; h++) {
            n += augment(h, to, new boolean[s.fams.size()]) ? 1 : 0;
        }
        return n;
    }

    private boolean augment(int h, int[] to, boolean[] seen) {
        for (int f = 0; f < s.fams.size(); f++) {
            if (s.fams.get(f).wish[h] && !seen[f]) {
                seen[f] = true;
                int has = 0;
                for (int o = 0; o < 24; o++) {
                    has += to[o] == f ? 1 : 0;
                }
                if (has < share(f)) {
                    to[h] = f;
                    return true;
                }
                for (int o = 0; o < 24; o++) {
                    if (to[o] == f && augment(o, to, seen)) {
                        to[h] = f;
                        return true;
                    }
                }
            }
        }
        return false;
    }

    private int glad(int f) {
        int n = 0;
        for (int h = 0; h < 24; h++) {
            n += who(h) == f && s.fams.get(f).wish[h] ? 1 : 0;
        }
        return n;
    }

    int trade() {
        int best = -1;
        int most = 0;
        for (int a = 0; a < 24; a++) {
            for (int b = a + 1; b < 24; b++) {
                int fa = who(a);
                int fb = who(b);
                if (fa == -1 || fb == -1 || fa == fb) {
                    continue;
                }
                int ga = glad(fa);
                int gb = glad(fb);
                s.hold[a] = fb;
                s.hold[b] = fa;
                int da = glad(fa) - ga;
                int db = glad(fb) - gb;
                s.hold[a] = fa;
                s.hold[b] = fb;
                if (da >= 0 && db >= 0 && da + db > most) {
                    most = da + db;
                    best = 24 * a + b;
                }
            }
        }
        return best;
    }

    /** By trying all ways to lay rows, up to a ring's turning. */
    int fewest() {
        int[] rest = new int[7];
        for (int h = 0; h < 24; h++) {
            rest[who(h) + 1]++;
        }
        int best = 24;
        for (int first = 0; first < 7; first++) {
            if (rest[first] > 0) {
                rest[first]--;
                best = Math.min(best, lay(rest, first, first, 23, new java.util.HashMap<>()));
                rest[first]++;
            }
        }
        return best;
    }

    private int lay(int[] rest, int first, int last, int n, java.util.HashMap<String, Integer> known) {
        if (n == 0) {
            return first == last ? 0 : 1;
        }
        String key = Arrays.toString(rest) + last;
        Integer k = known.get(key);
        if (k != null) {
            return k;
        }
        int best = 99;
        for (int f = 0; f < 7; f++) {
            if (rest[f] > 0) {
                rest[f]--;
                best = Math.min(best, (f == last ? 0 : 1) + lay(rest, first, f, n - 1, known));
                rest[f]++;
            }
        }
        known.put(key, best);
        return best;
    }

    int worth(int set) {
        int sum = 0;
        for (int h = 0; h < 24; h++) {
            int f = who(h);
            if (f == -1 || (set & 1 << f) == 0) {
                continue;
            }
            boolean wished = false;
            for (int g = 0; g < s.fams.size(); g++) {
                wished |= (set & 1 << g) != 0 && s.fams.get(g).wish[h];
            }
            sum += h < 6 || h > 21 ? 3 : wished ? 2 : 1;
        }
        return sum;
    }

    int part(int f, int sum) {
        checkFam(f);
        checkArg(sum >= 0 && sum <= 999);
        int n = s.fams.size();
        long[] totals = new long[2];
        orders(new ArrayList<>(), n, f, totals);
        int all = worth((1 << n) - 1);
        return all == 0 ? 0 : (int) Math.floorDiv(100L * sum * totals[0], totals[1] * all);
    }

    private void orders(List<Integer> come, int n, int f, long[] totals) {
        if (come.size() == n) {
            int before = 0;
            for (int g : come) {
                if (g == f) {
                    break;
                }
                before |= 1 << g;
            }
            totals[0] += worth(before | 1 << f) - worth(before);
            totals[1]++;
            return;
        }
        for (int g = 0; g < n; g++) {
            if (!come.contains(g)) {
                come.add(g);
                orders(come, n, f, totals);
                come.remove(come.size() - 1);
            }
        }
    }

    /** Hour by hour, bought or not, for both ways to begin. */
    int corner(int f) {
        checkFam(f);
        int best = 99;
        for (int first = 0; first < 2; first++) {
            int[] cost = {first == 0 ? 0 : 99, first == 1 ? 1 : 99};
            for (int h = 1; h < 24; h++) {
                boolean clash = who(h) != -1 && who(h) != f && who(h - 1) == who(h);
                int kept = clash ? cost[1] : Math.min(cost[0], cost[1]);
                int bought = Math.min(cost[0], cost[1]) + 1;
                cost = new int[] {kept, bought};
            }
            boolean clash = who(0) != -1 && who(0) != f && who(23) == who(0) && first == 0;
            best = Math.min(best, clash ? cost[1] : Math.min(cost[0], cost[1]));
        }
        return best;
    }

    int bids(int f, int o, int h) {
        checkFam(f);
        checkFam(o);
        checkHour(h);
        checkArg(f != o);
        int[][][] gain = new int[2][2][2];
        for (int a = 0; a < 2; a++) {
            for (int b = 0; b < 2; b++) {
                int bidA = a == 0 ? s.price : 2 * s.price;
                int bidB = b == 0 ? s.price : 2 * s.price;
                if (bidA > bidB) {
                    gain[a][b][0] = (s.fams.get(f).wish[h] ? 30 : 15) - bidA;
                } else if (bidB > bidA) {
                    gain[a][b][1] = (s.fams.get(o).wish[h] ? 30 : 15) - bidB;
                }
            }
        }
        int bits = 0;
        for (int a = 0; a < 2; a++) {
            for (int b = 0; b < 2; b++) {
                if (gain[1 - a][b][0] <= gain[a][b][0] && gain[a][1 - b][1] <= gain[a][b][1]) {
                    bits += 1 << (2 * a + b);
                }
            }
        }
        return bits;
    }

    int who(boolean rows) {
        byte[] told = useUp();
        checkArg(told.length <= 20);
        int bits = (1 << s.fams.size()) - 1;
        java.math.BigInteger n = java.math.BigInteger.ONE;
        for (byte b : told) {
            checkArg(b >= 0 && b <= 9);
            int can = 0;
            for (int f = 0; f < s.fams.size(); f++) {
                if (s.fams.get(f).dust == b) {
                    can++;
                } else {
                    bits &= ~(1 << f);
                }
            }
            n = n.multiply(java.math.BigInteger.valueOf(can));
        }
        return rows ? n.min(java.math.BigInteger.valueOf(9999)).intValue() : bits;
    }

    int common() {
        int[] made = new int[10];
        for (Fam f : s.fams) {
            made[f.dust]++;
        }
        int most = Arrays.stream(made).max().getAsInt();
        for (int d = 0; d < 10; d++) {
            if (made[d] == most) {
                return d;
            }
        }
        return 0;
    }

    int lovers() {
        int n = 0;
        for (int a = 0; a < s.fams.size(); a++) {
            for (int b = a + 1; b < s.fams.size(); b++) {
                n += Integer.bitCount(met(a, b)) >= 2 ? 1 : 0;
            }
        }
        return n;
    }

    int lesson(int n) {
        checkArg(n >= 1 && n <= 24);
        for (int h = 0; h < 24; h++) {
            boolean ok = who(h) != -1;
            for (int i = 0; ok && i < n; i++) {
                int at = (h + i) % 24;
                ok = who(at) == who(h) && s.fams.get(who(h)).wish[at];
            }
            if (ok) {
                return h;
            }
        }
        return -1;
    }

    int widows() {
        int bits = 0;
        for (int f = 0; f < s.fams.size(); f++) {
            bits += share(f) == 1 ? 1 << f : 0;
        }
        return bits;
    }

    private State after(int n, boolean draws) {
        State then = s.copy();
        for (int i = 0; i < n; i++) {
            then.pass(draws);
        }
        return then;
    }

    int ahead(int n, int what) {
        checkArg(n >= 0 && n <= 200);
        checkWhat(what, 2);
        State then = after(n, false);
        return new int[] {then.heat, then.dirt, then.in()}[what];
    }

    int dusty(int dirt) {
        checkArg(dirt >= 1 && dirt <= 99);
        State then = s.copy();
        for (int n = 0; n <= 200; n++, then.pass(false)) {
            if (then.dirt >= dirt) {
                return n;
            }
        }
        return -1;
    }

    int warmest(int n) {
        checkArg(n >= 1 && n <= 200);
        int[] heat = new int[n + 1];
        State then = s.copy();
        for (int i = 0; i <= n; i++, then.pass(false)) {
            heat[i] = then.heat;
        }
        int best = 0;
        for (int i = 0; i <= n; i++) {
            best = heat[i] > heat[best] ? i : best;
        }
        return best;
    }

    int ruin(int f) {
        checkFam(f);
        State then = s.copy();
        for (int n = 0; n <= 200; n++, then.pass(false)) {
            if (then.fams.get(f).purse == 0) {
                return n;
            }
        }
        return -1;
    }

    int rich() {
        int best = -1;
        for (int f = 0; f < s.fams.size(); f++) {
            if (best == -1 || riches(f) > riches(best)) {
                best = f;
            }
        }
        return best;
    }

    private int riches(int f) {
        return s.fams.get(f).purse + share(f) * s.price;
    }

    int cramped() {
        int sum = 0;
        for (Thing t : s.things) {
            sum += t.left && t.family != s.in() ? t.bulk : 0;
        }
        return sum;
    }

    int trial(int n, boolean purses) {
        checkArg(n >= 0 && n <= 200);
        State then = after(n, true);
        return purses ? then.fams.stream().mapToInt(f -> f.purse).sum() : then.quarrel;
    }

    int span(int n, boolean most) {
        checkArg(n >= 0 && n <= 200);
        int bound = most ? 0 : 9;
        int was = s.seed;
        for (int seed = 1; seed <= 6; seed++) {
            s.seed = seed;
            int q = after(n, true).quarrel;
            bound = most ? Math.max(bound, q) : Math.min(bound, q);
        }
        s.seed = was;
        return bound;
    }

    int led(int f, boolean day) {
        checkFam(f);
        int rows = 0;
        int last = -1;
        for (int[] row : s.log) {
            if (row[2] == f) {
                rows++;
                last = row[0];
            }
        }
        return day ? last : rows;
    }

    int log(int ago, int what) {
        checkWhat(what, 4);
        return ago < 0 || ago >= s.log.size() ? -1 : s.log.get(s.log.size() - 1 - ago)[what];
    }

    int seed(int n) {
        int was = s.seed;
        s = s.copy();
        s.seed = n;
        return was;
    }

    boolean undo() {
        if (acts.isEmpty()) {
            return false;
        }
        s = acts.removeLast();
        return true;
    }

    void image() {
        image = s.copy();
    }

    boolean back() {
        if (image == null) {
            return false;
        }
        s = image.copy();
        acts.clear();
        return true;
    }

    int count(int what) {
        int left = 0;
        for (int t = 0; t < s.things.size(); t++) {
            left += s.things.get(t).left ? 1 << t : 0;
        }
        int[] all = {s.fams.size(), s.things.size(), s.texts, s.law == null ? -1 : s.law.size(), s.hour, s.day, s.heat, s.dirt,
            s.quarrel, s.of, s.cold, s.fine, s.price, s.guests, left, s.in(), s.log.size(), acts.size()};
        return what < 0 || what >= all.length ? -1 : all[what];
    }
}
