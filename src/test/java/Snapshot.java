/** All that an object can be asked without a change, as one text. */
final class Snapshot {
    private Snapshot() {
    }

    /** What an act, a text or an image may change; the memory of acts, the tape and fault() are not among it. */
    static String state(ClockShares x) {
        StringBuilder text = new StringBuilder();
        for (int what = 0; what <= 16; what++) {
            text.append(x.count(what)).append(' ');
        }
        for (int hour = 0; hour < 24; hour++) {
            text.append(x.holds(hour)).append(' ');
        }
        for (int family = 0; family < x.count(0); family++) {
            for (int what = 0; what <= 8; what++) {
                text.append(x.family(family, what)).append(' ');
            }
            text.append(x.does(family, 0, 0)).append(' ').append(x.does(family, 0, 1)).append(' ');
        }
        for (int thing = 0; thing < x.count(1); thing++) {
            for (int what = 0; what <= 3; what++) {
                text.append(x.thing(thing, what)).append(' ');
            }
        }
        for (int ago = 0; ago < 61; ago++) {
            for (int what = 0; what < 5; what++) {
                text.append(x.log(ago, what)).append(' ');
            }
        }
        int seed = x.seed(0);
        x.seed(seed);
        return text.append(seed).toString();
    }

    static int tapeLength(ClockShares x) {
        int length = 400;
        while (length > 0 && !x.end(length)) {
            length--;
        }
        return length;
    }

    /** The state, then all acts undone one by one, then the image: the object is of no use behind this. */
    static String toTheEnd(ClockShares x) {
        StringBuilder text = new StringBuilder(state(x));
        for (int acts = x.count(17); acts > 0; acts--) {
            text.append("\nundo ").append(x.count(17)).append(' ').append(x.undo()).append(' ').append(state(x));
        }
        text.append("\nundo ").append(x.undo()).append(' ').append(state(x));
        return text.append("\nback ").append(x.back()).append(' ').append(state(x)).toString();
    }
}
