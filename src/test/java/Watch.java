import java.util.ArrayList;
import java.util.List;

/**
 * Makes a house, calls it once, and looks at it ahead of the call and behind it: count, digest and status. What these do
 * not show (MINUTES that may be undone, IMAGES, the bytes of THE TEXT) is brought to light at last, and compared with a
 * house made alike that was not called.
 */
final class Watch {
    static final int AS_BAD = 0, AS_NO = 1, AS_FULL = 2;

    private static final int COUNTS = 10;
    private static final int REASONS = 3;
    private static final int MOST_UNDOABLE = 12;

    interface Making {
        CandleHouse make();
    }

    interface Call {
        int on(CandleHouse x);
    }

    private final Due due;

    Watch(Due due) {
        this.due = due;
    }

    /** The call is refused: by this answer, counted once under its reason, and nothing else changes. */
    void refused(String what, Making making, Call call, int answer, int reason) {
        long[] more = new long[REASONS];
        more[reason] = 1;
        nothingElse(what, making, call, answer, more);
    }

    /** The call is a question that is answered: nothing changes, STATUS neither. */
    void asked(String what, Making making, Call call, int answer) {
        nothingElse(what, making, call, answer, new long[REASONS]);
    }

    /** Nothing changes by the call but STATUS, by so much. */
    private void nothingElse(String what, Making making, Call call, int answer, long[] more) {
        CandleHouse x = making.make();
        long[] seen = seen(x);
        long[] statuses = statuses(x);
        due.is(what, call.on(x), answer);
        for (int i = 0; i < REASONS; i++) {
            statuses[i] += more[i];
        }
        same(what + ": status behind it", statuses(x), statuses);
        same(what + ": state behind it", seen(x), seen);
        due.holds(what + ": what is kept", depths(x).equals(depths(making.make())));
    }

    /** The call is done: STATUS stays, and the counts behind it are these. */
    void done(String what, Making making, Call call, int answer, int... counts) {
        CandleHouse x = making.make();
        long[] statuses = statuses(x);
        due.is(what, call.on(x), answer);
        same(what + ": status behind it", statuses(x), statuses);
        counts(what, x, counts);
    }

    /** As many of the counts as are told: count(0) and so on. */
    void counts(String what, CandleHouse x, int... want) {
        for (int i = 0; i < want.length; i++) {
            due.is(what + ": count(" + i + ")", x.count(i), want[i]);
        }
    }

    void same(String what, long[] got, long[] want) {
        for (int i = 0; i < want.length; i++) {
            due.is(what + " [" + i + "]", got[i], want[i]);
        }
    }

    /** All counts, and the digest. */
    static long[] seen(CandleHouse x) {
        long[] seen = new long[COUNTS + 1];
        for (int i = 0; i < COUNTS; i++) {
            seen[i] = x.count(i);
        }
        seen[COUNTS] = x.digest();
        return seen;
    }

    static long[] statuses(CandleHouse x) {
        long[] statuses = new long[REASONS];
        for (int i = 0; i < REASONS; i++) {
            statuses[i] = x.status(i);
        }
        return statuses;
    }

    /** Spends the house. */
    private static List<Long> depths(CandleHouse x) {
        List<Long> found = new ArrayList<>();
        undoAll(x, found);
        for (int i = 0; i < 2; i++) {
            found.add((long) x.from(i));
            found.add(x.digest());
            undoAll(x, found);
        }
        found.add((long) x.read());
        found.add(x.digest());
        return found;
    }

    private static void undoAll(CandleHouse x, List<Long> found) {
        for (int i = 0; i <= MOST_UNDOABLE; i++) {
            found.add((long) x.undo());
            found.add(x.digest());
        }
    }

    static void type(CandleHouse x, String text) {
        x.clear();
        for (int i = 0; i < text.length(); i++) {
            x.type(text.charAt(i));
        }
    }

    /** As much wax as there can be: 20 SLICES of 9, 180 drops. */
    static CandleHouse tall() {
        CandleHouse x = new CandleHouse();
        x.candle(20);
        for (int i = 0; i < 20; i++) {
            x.thick(i, 9);
        }
        return x;
    }

    static CandleHouse typed(String text) {
        CandleHouse x = new CandleHouse();
        type(x, text);
        return x;
    }

    /** A house told by a text, which has to be without a fault. */
    static CandleHouse told(String text) {
        CandleHouse x = typed(text);
        if (x.read() < 1) {
            throw new IllegalStateException("the test's own text is wrong: " + text);
        }
        return x;
    }

    static CandleHouse told(String text, int minutes) {
        CandleHouse x = told(text);
        for (int left = minutes; left > 0; left -= 20) {
            x.minute(Math.min(20, left));
        }
        return x;
    }
}
