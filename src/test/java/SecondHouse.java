import java.util.ArrayList;
import java.util.List;
import java.util.function.IntPredicate;
import java.util.regex.Matcher;
import java.util.regex.Pattern;

/**
 * A second house with the same face, written from the document alone and in another way than the class: it keeps a log of
 * all MINUTES, burns wax drop by drop, tries every set, and reads THE TEXT by patterns. It is slow; tests compare with it.
 */
final class SecondHouse {
    private static final int NONE = -1, BAD = -2, NO = -3, FULL = -4, BAD_AS_TEN = -10;
    private static final int FAR = 200;
    private static final Pattern TOKEN = Pattern.compile(" *(?:([a-z]+)|([0-9]+)|(;)|([^ ]))");
    private static final Pattern CHAMBER = Pattern.compile("c1;(?:t11;|d1;|o1;|p11;|m1111;)*");

    /** What an IMAGE keeps. */
    private static final class State {
        private final List<Integer> thick = new ArrayList<>();
        /** DRAUGHT, whether open. */
        private final List<int[]> doors = new ArrayList<>();
        /** PARTY, SLICE, what was told. */
        private final List<int[]> pins = new ArrayList<>();
        /** KIND, PARTY, FROM, TILL. */
        private final List<int[]> members = new ArrayList<>();
        /** BURNT and OWED behind each MINUTE gone by. */
        private final List<int[]> log = new ArrayList<>();
        private int undoable;

        State(int slices) {
            for (int i = 0; i < slices; i++) {
                thick.add(4);
            }
        }

        State copy() {
            State other = new State(0);
            other.thick.addAll(thick);
            doors.forEach(d -> other.doors.add(d.clone()));
            pins.forEach(p -> other.pins.add(p.clone()));
            members.forEach(m -> other.members.add(m.clone()));
            other.log.addAll(log);
            other.undoable = undoable;
            return other;
        }

        int now() {
            return log.size();
        }

        int burnt() {
            return log.isEmpty() ? 0 : log.get(log.size() - 1)[0];
        }

        int owed() {
            return log.isEmpty() ? 0 : log.get(log.size() - 1)[1];
        }

        int allWax() {
            return thick.stream().mapToInt(k -> k).sum();
        }
    }

    private State state = new State(10);
    private final State[] images = new State[2];
    private final StringBuilder text = new StringBuilder();
    private final int[] refused = new int[3];

    private int refuse(int answer) {
        refused[-2 - answer]++;
        return answer;
    }

    private int refuseAsTen() {
        refuse(BAD);
        return BAD_AS_TEN;
    }

    private static boolean in(int value, int least, int most) {
        return least <= value && value <= most;
    }

    private boolean isPin(int pin) {
        return in(pin, 0, state.pins.size() - 1);
    }

    private boolean isDoor(int door) {
        return in(door, 0, state.doors.size() - 1);
    }

    // ---- a chamber

    int candle(int n) {
        if (!in(n, 1, 20)) {
            return refuse(BAD);
        }
        int was = state.thick.size();
        state = new State(n);
        return was;
    }

    int thick(int slice, int k) {
        if (!in(slice, 0, state.thick.size() - 1) || !in(k, 1, 9)) {
            return refuse(BAD);
        }
        int[] wax = waxLeft(state.thick, state.burnt());
        return wax[slice] < state.thick.get(slice) ? refuse(NO) : state.thick.set(slice, k);
    }

    int door(int draught) {
        if (!in(draught, 0, 3)) {
            return refuse(BAD);
        }
        if (state.doors.size() == 5) {
            return refuse(FULL);
        }
        state.doors.add(new int[] {draught, 0});
        return state.doors.size() - 1;
    }

    int open(int door, boolean is) {
        if (!isDoor(door)) {
            return refuse(BAD);
        }
        int now = is ? 1 : 0;
        if (state.doors.get(door)[1] == now) {
            return refuse(NO);
        }
        state.doors.get(door)[1] = now;
        return 1;
    }

    int pin(int party, int slice) {
        if (!in(party, 0, 2) || !in(slice, 0, state.thick.size() - 1)) {
            return refuse(BAD);
        }
        if (fellIn(slice)) {
            return refuse(NO);
        }
        if (state.pins.size() == 9) {
            return refuse(FULL);
        }
        state.pins.add(new int[] {party, slice, NONE});
        return state.pins.size() - 1;
    }

    int member(int kind, int party, int from, int till) {
        if (!in(kind, 0, 5) || !in(party, 0, 2) || !in(from, 0, 99) || !in(till, 0, 99)) {
            return refuse(BAD);
        }
        if (state.members.size() == 6) {
            return refuse(FULL);
        }
        state.members.add(new int[] {kind, party, from, till});
        return state.members.size() - 1;
    }

    int drop(int what) {
        if (!in(what, 0, 1)) {
            return refuse(BAD);
        }
        List<int[]> from = what == 0 ? state.pins : state.members;
        if (from.isEmpty()) {
            return refuse(NO);
        }
        from.remove(from.size() - 1);
        return from.size();
    }

    int type(int c) {
        if (!in(c, 0, 127)) {
            return refuse(BAD);
        }
        if (text.length() == 150) {
            return refuse(FULL);
        }
        text.append((char) c);
        return text.length();
    }

    int clear() {
        int had = text.length();
        text.setLength(0);
        return had;
    }

    /** The shape has a sign for each TOKEN: the fault is the first by which it can not become a chamber any more. */
    int read() {
        List<String> tokens = new ArrayList<>();
        List<Integer> places = new ArrayList<>();
        Matcher m = TOKEN.matcher(text);
        for (int at = 0; m.find(at) && m.start() == at; at = m.end()) {
            String token = m.group().replaceAll("^ *", "");
            tokens.add(token);
            places.add(m.end() - token.length());
        }
        String shape = "";
        for (int i = 0; i < tokens.size(); i++) {
            shape += signOf(tokens.get(i));
            Matcher chamber = CHAMBER.matcher(shape);
            if (!chamber.matches() && !chamber.hitEnd()) {
                return -10 - places.get(i);
            }
        }
        return CHAMBER.matcher(shape).matches() ? tell(String.join(" ", tokens)) : -10 - text.length();
    }

    private static String signOf(String token) {
        if (token.matches("candle|thick|door|open|pin|member")) {
            return token.substring(0, 1);
        }
        if (token.matches("[0-9]{1,2}")) {
            return "1";
        }
        return token.equals(";") ? ";" : "?";
    }

    private int tell(String chamber) {
        SecondHouse other = new SecondHouse();
        String[] items = chamber.split(";");
        for (int i = 0; i < items.length; i++) {
            if (tellItem(other, items[i].trim().split(" ")) < 0) {
                return -1000 - i;
            }
        }
        state = other.state;
        return items.length;
    }

    private static int tellItem(SecondHouse other, String[] words) {
        int[] v = new int[words.length];
        for (int i = 1; i < words.length; i++) {
            v[i] = Integer.parseInt(words[i]);
        }
        return switch (words[0]) {
            case "candle" -> other.candle(v[1]);
            case "thick" -> other.thick(v[1], v[2]);
            case "door" -> other.door(v[1]);
            case "open" -> other.open(v[1], true);
            case "pin" -> other.pin(v[1], v[2]);
            default -> other.member(v[1], v[2], v[3], v[4]);
        };
    }

    // ---- minutes

    int minute(int n) {
        if (!in(n, 1, 20)) {
            return refuse(BAD);
        }
        for (int i = 0; i < n; i++) {
            int wax = state.allWax();
            int burns = Math.min(flame(state.now(), openNow()), wax - state.burnt());
            int drips = Math.max(0, burns - 3) / 2;
            state.log.add(new int[] {state.burnt() + burns, state.owed() + drips});
            state.undoable = Math.min(12, state.undoable + 1);
        }
        return state.burnt();
    }

    int undo() {
        if (state.undoable == 0) {
            return refuse(NO);
        }
        state.undoable--;
        state.log.remove(state.log.size() - 1);
        return 1;
    }

    int house(int minute) {
        return in(minute, 0, 299) ? houseIn(minute) : refuseAsTen();
    }

    int votes(int party, int minute) {
        return in(party, 0, 2) && in(minute, 0, 299) ? votesIn(minute)[party] : refuse(BAD);
    }

    int burns(int minute) {
        return in(minute, 0, 299) ? flame(minute, openNow()) : refuse(BAD);
    }

    int fallen(int pin) {
        if (!isPin(pin)) {
            return refuse(BAD);
        }
        return fellIn(state.pins.get(pin)[1]) ? 1 : 0;
    }

    private static int voteOf(int kind, int minute) {
        int awake = minute % 2 == 0 ? 1 : 0;
        return new int[] {1, awake, 1, 2, awake, 3}[kind];
    }

    private static int breathOf(int kind, int minute) {
        return new int[] {0, 0, 1, 0, minute % 2, 2}[kind];
    }

    private int[] votesIn(int minute) {
        int[] votes = new int[3];
        for (int[] m : state.members) {
            votes[m[1]] += in(minute, m[2], m[3] - 1) ? voteOf(m[0], minute) : 0;
        }
        return votes;
    }

    private int houseIn(int minute) {
        int[] votes = votesIn(minute);
        int most = Math.max(votes[0], Math.max(votes[1], votes[2]));
        if (most == 0) {
            return NONE;
        }
        return votes[0] == most ? 0 : votes[1] == most ? 1 : 2;
    }

    private int openNow() {
        int bits = 0;
        for (int i = 0; i < state.doors.size(); i++) {
            bits += state.doors.get(i)[1] << i;
        }
        return bits;
    }

    private int flame(int minute, int doors) {
        int sum = 1;
        for (int i = 0; i < state.doors.size(); i++) {
            sum += (doors & 1 << i) != 0 ? state.doors.get(i)[0] : 0;
        }
        for (int[] m : state.members) {
            sum += in(minute, m[2], m[3] - 1) ? breathOf(m[0], minute) : 0;
        }
        return sum;
    }

    private static int[] waxLeft(List<Integer> thick, int burnt) {
        int[] wax = thick.stream().mapToInt(k -> k).toArray();
        burn(wax, burnt);
        return wax;
    }

    private static void burn(int[] wax, int drops) {
        int slice = 0;
        for (int left = drops; left > 0 && slice < wax.length; ) {
            if (wax[slice] == 0) {
                slice++;
            } else {
                wax[slice]--;
                left--;
            }
        }
    }

    private static boolean isGone(int[] wax, int slices) {
        int left = 0;
        for (int i = 0; i < slices; i++) {
            left += wax[i];
        }
        return left == 0;
    }

    /** In any of the MINUTES gone by, by its log. */
    private boolean fellIn(int slice) {
        for (int[] entry : state.log) {
            if (isGone(waxLeft(state.thick, entry[0]), slice)) {
                return true;
            }
        }
        return false;
    }

    // ---- what falls when

    /** Behind how many MINUTES from now on so many SLICES are gone (1 at least). */
    private int minutesTill(List<Integer> thick, int slices, int doors) {
        int[] wax = waxLeft(thick, state.burnt());
        for (int i = 0; i < FAR; i++) {
            burn(wax, flame(state.now() + i, doors));
            if (isGone(wax, slices)) {
                return i + 1;
            }
        }
        return NONE;
    }

    private int fall(int slice, int doors) {
        int minutes = fellIn(slice) ? NONE : minutesTill(state.thick, slice, doors);
        return minutes == NONE ? NONE : state.now() + minutes - 1;
    }

    private int fallOf(int pin, int doors) {
        return fall(state.pins.get(pin)[1], doors);
    }

    int falls(int pin) {
        return isPin(pin) ? fallOf(pin, openNow()) : refuseAsTen();
    }

    int out() {
        if (state.burnt() == state.allWax()) {
            return NONE;
        }
        int minutes = minutesTill(state.thick, state.thick.size(), openNow());
        return minutes == NONE ? NONE : state.now() + minutes - 1;
    }

    int whose(int pin) {
        if (!isPin(pin)) {
            return refuseAsTen();
        }
        int minute = fallOf(pin, openNow());
        return minute == NONE ? NONE : houseIn(minute);
    }

    int reads(int w, int r, int pin) {
        if (!in(w, 1, 9999) || !in(r, 1, 99) || !isPin(pin)) {
            return refuseAsTen();
        }
        int minute = fallOf(pin, openNow());
        int words = 0;
        for (int i = state.now(); i <= minute; i++) {
            words = Math.min(w, words + r);
        }
        return minute == NONE ? NONE : words;
    }

    /** Each SLICE, each two of them, in their order: a later one has to be better. */
    int set(int party, int m, int what) {
        if (!in(party, 0, 2) || !in(m, 1, 2) || !in(what, 0, 2)) {
            return refuseAsTen();
        }
        List<int[]> free = new ArrayList<>();
        for (int slice = 0; slice < state.thick.size(); slice++) {
            if (!fellIn(slice)) {
                int minute = fall(slice, openNow());
                free.add(new int[] {minute != NONE && houseIn(minute) == party ? 1 : 0, slice});
            }
        }
        int[] best = {NONE, NONE, NONE};
        for (int a = 0; a < free.size(); a++) {
            for (int b = a; b < (m == 1 ? a + 1 : free.size()); b++) {
                int sum = free.get(a)[0] + (m == 1 ? 0 : free.get(b)[0]);
                if (sum > best[0]) {
                    best = new int[] {sum, free.get(a)[1], m == 1 ? NONE : free.get(b)[1]};
                }
            }
        }
        return best[what];
    }

    int shut(int pin, int t) {
        if (!isPin(pin) || !in(t, 0, 299) || fallen(pin) == 1) {
            return refuseAsTen();
        }
        IntPredicate holds = bits -> {
            int minute = fallOf(pin, openNow() & ~bits);
            return (bits & openNow()) == bits && (minute == NONE || minute >= t);
        };
        for (int size = 0; size <= state.doors.size(); size++) {
            for (int bits = 0; bits < 1 << state.doors.size(); bits++) {
                if (Integer.bitCount(bits) == size && holds.test(bits)) {
                    return bits;
                }
            }
        }
        return NONE;
    }

    int lean(int pin, int minute) {
        if (!isPin(pin) || !in(minute, NONE, 299)) {
            return refuseAsTen();
        }
        int was = state.pins.get(pin)[2];
        state.pins.get(pin)[2] = minute;
        return was;
    }

    int leaned(int what) {
        if (!in(what, 0, 1)) {
            return refuseAsTen();
        }
        List<Integer> sets = new ArrayList<>();
        for (int bits = 0; bits < 1 << state.doors.size(); bits++) {
            boolean all = true;
            for (int pin = 0; pin < state.pins.size(); pin++) {
                int told = state.pins.get(pin)[2];
                all = all && (told == NONE || told == fallOf(pin, bits));
            }
            if (all) {
                sets.add(bits);
            }
        }
        return what == 0 ? sets.size() : sets.isEmpty() ? NONE : sets.get(0);
    }

    int quorum(int q, int n, int what) {
        if (!in(q, 1, 30) || !in(n, 0, 60) || !in(what, 0, 1)) {
            return refuseAsTen();
        }
        List<Integer> found = new ArrayList<>();
        for (int i = 0; i < n; i++) {
            int[] votes = votesIn(state.now() + i);
            if (votes[0] + votes[1] + votes[2] >= q) {
                found.add(state.now() + i);
            }
        }
        return what == 0 ? found.size() : found.isEmpty() ? NONE : found.get(0);
    }

    int tallow(int pin, int what) {
        if (!isPin(pin) || !in(what, 0, 1)) {
            return refuseAsTen();
        }
        List<Integer> tallow = new ArrayList<>();
        for (int k : state.thick) {
            tallow.add(what == 0 ? k - k / 2 : k + k);
        }
        int slice = state.pins.get(pin)[1];
        return fellIn(slice) ? NONE : minutesTill(tallow, slice, openNow());
    }

    int race(int k, int d) {
        if (!in(k, 1, 9) || !in(d, 1, 9)) {
            return refuse(BAD);
        }
        int mine = state.allWax() - state.burnt();
        int others = state.thick.size() * k;
        for (int i = 0; i <= FAR; i++) {
            if (mine <= 0 || others <= 0) {
                return mine > 0 ? 1 : others > 0 ? 0 : 2;
            }
            mine -= flame(state.now() + i, openNow());
            others -= d;
        }
        return 3;
    }

    int game(int one, int oneDoor, int other, int otherDoor, int what) {
        boolean parties = in(one, 0, 2) && in(other, 0, 2) && one != other;
        boolean doors = isDoor(oneDoor) && isDoor(otherDoor) && oneDoor != otherDoor;
        if (!parties || !doors || !in(what, 0, 1)) {
            return refuseAsTen();
        }
        int a = 1 << oneDoor;
        int b = 1 << otherDoor;
        int none = openNow() & ~a & ~b;
        List<Integer> rest = new ArrayList<>();
        for (int name : new int[] {0, 1, 10, 11}) {
            int here = none | (name >= 10 ? a : 0) | (name % 10 == 1 ? b : 0);
            boolean oneStays = gain(one, here) >= gain(one, here ^ a);
            boolean otherStays = gain(other, here) >= gain(other, here ^ b);
            if (oneStays && otherStays) {
                rest.add(name);
            }
        }
        return what == 0 ? rest.size() : rest.isEmpty() ? NONE : rest.get(0);
    }

    private int gain(int party, int doors) {
        int gain = 0;
        for (int pin = 0; pin < state.pins.size(); pin++) {
            int minute = fallOf(pin, doors);
            int house = minute == NONE ? NONE : houseIn(minute);
            boolean own = state.pins.get(pin)[0] == party;
            if (own && house == party) {
                gain++;
            }
            if (!own && house == state.pins.get(pin)[0]) {
                gain--;
            }
        }
        return gain;
    }

    int moths(int m, int w, int seed) {
        if (!in(m, 0, 60) || !in(w, 0, 100) || !in(seed, 0, 999999)) {
            return refuse(BAD);
        }
        int[] wax = waxLeft(state.thick, state.burnt());
        long x = seed;
        for (int i = 0; i < m; i++) {
            x = Math.floorMod(x * 1103515245L + 12345L, 2147483648L);
            if (Math.floorMod(Math.floorDiv(x, 65536L), 100L) >= w) {
                burn(wax, flame(state.now() + i, openNow()));
            }
        }
        int left = 0;
        for (int drops : wax) {
            left += drops;
        }
        return state.allWax() - left;
    }

    int loan(int what) {
        if (!in(what, 0, 1)) {
            return refuse(BAD);
        }
        int whole = 0;
        int left = state.owed();
        while (whole < state.thick.size() && left >= state.thick.get(whole)) {
            left -= state.thick.get(whole);
            whole++;
        }
        return what == 0 ? whole : left;
    }

    // ---- what there is

    int image(int i) {
        if (!in(i, 0, 1)) {
            return refuse(BAD);
        }
        images[i] = state.copy();
        return 1;
    }

    int from(int i) {
        if (!in(i, 0, 1)) {
            return refuse(BAD);
        }
        if (images[i] == null) {
            return refuse(NO);
        }
        state = images[i].copy();
        return 1;
    }

    int status(int what) {
        if (!in(what, 0, 2)) {
            refuse(BAD);
            return -1;
        }
        return refused[what];
    }

    private List<Integer> counts() {
        return List.of(state.thick.size(), state.burnt(), state.allWax(), state.now(), state.doors.size(), state.pins.size(),
            state.members.size(), state.owed(), state.undoable, text.length());
    }

    int count(int what) {
        return in(what, 0, 9) ? counts().get(what) : refuse(BAD);
    }

    long digest() {
        List<Integer> all = new ArrayList<>(counts());
        all.addAll(state.thick);
        for (List<int[]> rows : List.of(state.doors, state.pins, state.members)) {
            for (int[] row : rows) {
                for (int v : row) {
                    all.add(v);
                }
            }
        }
        long h = 877;
        for (int v : all) {
            h = 31 * h + v;
        }
        return h;
    }
}
