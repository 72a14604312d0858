/**
 * The candle's parliament, as ../shared/DOC.md tells it. The words in capitals there
 * (SLICES, BURNT, THE HOUSE ..) are used here in small letters and in the same sense.
 *
 * <p>All rows are made once, with the object, and used again: no call makes an object.
 */
public final class CandleHouse {
    public static final int NONE = -1, BAD = -2, NO = -3, FULL = -4;

    /** BAD, where NONE and its neighbours could be taken for an answer. */
    private static final int BAD_AS_TEN = -10;
    private static final int PARTIES = 3;
    private static final int LAST_MINUTE = 299;
    private static final int IMAGES = 2;
    private static final int COUNTS = 10;

    private final Chamber chamber;
    private final Chamber draft;
    private final Chamber[] images;
    private final boolean[] kept;
    private final Script script;
    private final Outlook outlook;
    private final int[] refusals;

    public CandleHouse() {
        chamber = new Chamber();
        draft = new Chamber();
        images = new Chamber[] {new Chamber(), new Chamber()};
        kept = new boolean[IMAGES];
        script = new Script();
        outlook = new Outlook(chamber);
        refusals = new int[3];
    }

    // ---- a chamber

    public int candle(int n) {
        return counted(chamber.lightAnew(n));
    }

    public int thick(int slice, int k) {
        return counted(chamber.makeThick(slice, k));
    }

    public int door(int draught) {
        return counted(chamber.addDoor(draught));
    }

    public int open(int door, boolean is) {
        return counted(chamber.turnDoor(door, is));
    }

    public int pin(int party, int slice) {
        return counted(chamber.addPin(party, slice));
    }

    public int member(int kind, int party, int from, int till) {
        return counted(chamber.benches.seat(kind, party, from, till));
    }

    public int drop(int what) {
        if (what == 0) {
            return counted(chamber.dropPin());
        }
        return counted(what == 1 ? chamber.benches.dropMember() : BAD);
    }

    public int type(int c) {
        return counted(script.append(c));
    }

    public int clear() {
        return script.empty();
    }

    public int read() {
        int answer = script.tellTo(draft);
        if (answer > 0) {
            chamber.becomeLike(draft);
        }
        return answer;
    }

    // ---- minutes

    public int minute(int n) {
        if (!within(n, 1, 20)) {
            return counted(BAD);
        }
        for (int i = 0; i < n; i++) {
            chamber.passMinute();
        }
        return chamber.burnt;
    }

    public int undo() {
        return counted(chamber.takeMinuteBack());
    }

    public int house(int minute) {
        return isMinute(minute) ? chamber.benches.strongest(minute) : badAsTen();
    }

    public int votes(int party, int minute) {
        if (!isParty(party) || !isMinute(minute)) {
            return counted(BAD);
        }
        return chamber.benches.votesOf(party, minute);
    }

    public int burns(int minute) {
        return isMinute(minute) ? chamber.flame(minute) : counted(BAD);
    }

    public int fallen(int pin) {
        if (!chamber.hasPin(pin)) {
            return counted(BAD);
        }
        return chamber.isPinDown(pin) ? 1 : 0;
    }

    // ---- what falls when

    public int falls(int pin) {
        return chamber.hasPin(pin) ? outlook.fallMinute(pin) : badAsTen();
    }

    public int out() {
        return outlook.outMinute();
    }

    public int whose(int pin) {
        return chamber.hasPin(pin) ? outlook.houseAtFall(pin) : badAsTen();
    }

    public int reads(int w, int r, int pin) {
        if (!within(w, 1, 9999) || !within(r, 1, 99) || !chamber.hasPin(pin)) {
            return badAsTen();
        }
        return outlook.wordsRead(w, r, pin);
    }

    public int set(int party, int m, int what) {
        if (!isParty(party) || !within(m, 1, 2) || !within(what, 0, 2)) {
            return badAsTen();
        }
        return outlook.bestPins(party, m, what);
    }

    public int shut(int pin, int t) {
        if (!chamber.hasPin(pin) || !isMinute(t) || chamber.isPinDown(pin)) {
            return badAsTen();
        }
        return outlook.fewestToShut(pin, t);
    }

    public int lean(int pin, int minute) {
        if (!chamber.hasPin(pin) || (minute != NONE && !isMinute(minute))) {
            return badAsTen();
        }
        return chamber.tellFall(pin, minute);
    }

    public int leaned(int what) {
        return within(what, 0, 1) ? outlook.doorsThatLeaned(what) : badAsTen();
    }

    public int quorum(int q, int n, int what) {
        if (!within(q, 1, 30) || !within(n, 0, 60) || !within(what, 0, 1)) {
            return badAsTen();
        }
        return outlook.minutesWithQuorum(q, n, what);
    }

    public int tallow(int pin, int what) {
        if (!chamber.hasPin(pin) || !within(what, 0, 1)) {
            return badAsTen();
        }
        return outlook.minutesOfTallow(pin, what == 1);
    }

    public int race(int k, int d) {
        if (!within(k, 1, 9) || !within(d, 1, 9)) {
            return counted(BAD);
        }
        return outlook.firstOut(k, d);
    }

    public int game(int one, int oneDoor, int other, int otherDoor, int what) {
        if (!isParty(one) || !isParty(other) || one == other || !within(what, 0, 1)) {
            return badAsTen();
        }
        if (!chamber.hasDoor(oneDoor) || !chamber.hasDoor(otherDoor) || oneDoor == otherDoor) {
            return badAsTen();
        }
        outlook.playDoors(one, oneDoor, other, otherDoor);
        return outlook.pairsThatRest(what);
    }

    public int moths(int m, int w, int seed) {
        if (!within(m, 0, 60) || !within(w, 0, 100) || !within(seed, 0, 999999)) {
            return counted(BAD);
        }
        return outlook.burntAmongMoths(m, w, seed);
    }

    public int loan(int what) {
        if (!within(what, 0, 1)) {
            return counted(BAD);
        }
        int slices = chamber.slicesOwed();
        return what == 0 ? slices : chamber.owed - chamber.waxAbove(slices);
    }

    // ---- what there is

    public int image(int i) {
        if (!within(i, 0, IMAGES - 1)) {
            return counted(BAD);
        }
        images[i].becomeLike(chamber);
        kept[i] = true;
        return 1;
    }

    public int from(int i) {
        if (!within(i, 0, IMAGES - 1)) {
            return counted(BAD);
        }
        if (!kept[i]) {
            return counted(NO);
        }
        chamber.becomeLike(images[i]);
        return 1;
    }

    public int status(int what) {
        if (!within(what, 0, 2)) {
            counted(BAD);
            return -1;
        }
        return refusals[what];
    }

    public int count(int what) {
        return within(what, 0, COUNTS - 1) ? numberOf(what) : counted(BAD);
    }

    public long digest() {
        long h = 877;
        for (int what = 0; what < COUNTS; what++) {
            h = 31 * h + numberOf(what);
        }
        return chamber.benches.digestFrom(chamber.digestFrom(h));
    }

    private int numberOf(int what) {
        switch (what) {
            case 0: return chamber.slices;
            case 1: return chamber.burnt;
            case 2: return chamber.allWax();
            case 3: return chamber.now;
            case 4: return chamber.doors;
            case 5: return chamber.pins;
            case 6: return chamber.benches.members;
            case 7: return chamber.owed;
            case 8: return chamber.undoable;
            default: return script.length;
        }
    }

    /** Only for answers that are never as low as BAD unless the call is refused. */
    private int counted(int answer) {
        if (answer == BAD) {
            refusals[0]++;
        } else if (answer == NO) {
            refusals[1]++;
        } else if (answer == FULL) {
            refusals[2]++;
        }
        return answer;
    }

    private int badAsTen() {
        refusals[0]++;
        return BAD_AS_TEN;
    }

    private static boolean within(int value, int least, int most) {
        return value >= least && value <= most;
    }

    private static boolean isMinute(int minute) {
        return within(minute, 0, LAST_MINUTE);
    }

    private static boolean isParty(int party) {
        return within(party, 0, PARTIES - 1);
    }

    /** The kind that all others are under: each says only what it has otherwise. */
    private static class Plain {
        int votesIn(int minute) {
            return 1;
        }

        int breathIn(int minute) {
            return 0;
        }
    }

    private static class Sleeper extends Plain {
        int votesIn(int minute) {
            return minute % 2 == 0 ? super.votesIn(minute) : 0;
        }
    }

    private static class Leaner extends Plain {
        int breathIn(int minute) {
            return 1;
        }
    }

    private static final class Speaker extends Plain {
        int votesIn(int minute) {
            return super.votesIn(minute) + 1;
        }
    }

    private static final class Snorer extends Sleeper {
        int breathIn(int minute) {
            return super.breathIn(minute) + (minute % 2 == 0 ? 0 : 1);
        }
    }

    private static final class Patron extends Leaner {
        int votesIn(int minute) {
            return 3 * super.votesIn(minute);
        }

        int breathIn(int minute) {
            return 2 * super.breathIn(minute);
        }
    }

    /** The members, and what they do in a minute. */
    private static final class Benches {
        private static final int SEATS = 6;
        private static final int LAST_TOLD = 99;

        private final Plain[] kinds;
        private final int[] kindOf = new int[SEATS];
        private final int[] partyOf = new int[SEATS];
        private final int[] fromOf = new int[SEATS];
        private final int[] tillOf = new int[SEATS];
        private int members;

        Benches() {
            kinds = new Plain[] {
                new Plain(), new Sleeper(), new Leaner(), new Speaker(), new Snorer(), new Patron()
            };
        }

        int seat(int kind, int party, int from, int till) {
            if (!within(kind, 0, kinds.length - 1) || !isParty(party)) {
                return BAD;
            }
            if (!within(from, 0, LAST_TOLD) || !within(till, 0, LAST_TOLD)) {
                return BAD;
            }
            if (members >= SEATS) {
                return FULL;
            }
            kindOf[members] = kind;
            partyOf[members] = party;
            fromOf[members] = from;
            tillOf[members] = till;
            members++;
            return members - 1;
        }

        int dropMember() {
            if (members == 0) {
                return NO;
            }
            members--;
            return members;
        }

        void sendAllHome() {
            members = 0;
        }

        int votesOf(int party, int minute) {
            int sum = 0;
            for (int i = 0; i < members; i++) {
                if (partyOf[i] == party && isInside(i, minute)) {
                    sum += kinds[kindOf[i]].votesIn(minute);
                }
            }
            return sum;
        }

        int votesOfAll(int minute) {
            int sum = 0;
            for (int party = 0; party < PARTIES; party++) {
                sum += votesOf(party, minute);
            }
            return sum;
        }

        int breathOfAll(int minute) {
            int sum = 0;
            for (int i = 0; i < members; i++) {
                if (isInside(i, minute)) {
                    sum += kinds[kindOf[i]].breathIn(minute);
                }
            }
            return sum;
        }

        int strongest(int minute) {
            int best = NONE;
            int most = 0;
            for (int party = 0; party < PARTIES; party++) {
                int votes = votesOf(party, minute);
                if (votes > most) {
                    most = votes;
                    best = party;
                }
            }
            return best;
        }

        private boolean isInside(int member, int minute) {
            return fromOf[member] <= minute && minute < tillOf[member];
        }

        void becomeLike(Benches that) {
            members = that.members;
            System.arraycopy(that.kindOf, 0, kindOf, 0, SEATS);
            System.arraycopy(that.partyOf, 0, partyOf, 0, SEATS);
            System.arraycopy(that.fromOf, 0, fromOf, 0, SEATS);
            System.arraycopy(that.tillOf, 0, tillOf, 0, SEATS);
        }

        long digestFrom(long start) {
            long h = start;
            for (int i = 0; i < members; i++) {
                h = 31 * h + kindOf[i];
                h = 31 * h + partyOf[i];
                h = 31 * h + fromOf[i];
                h = 31 * h + tillOf[i];
            }
            return h;
        }
    }

    /** All that an image keeps. Its calls answer refusals, but do not count them. */
    private static final class Chamber {
        private static final int MOST_SLICES = 20;
        private static final int MOST_DOORS = 5;
        private static final int MOST_PINS = 9;
        private static final int MOST_UNDOABLE = 12;
        private static final int DRIPLESS = 3;

        private final int[] thickness = new int[MOST_SLICES];
        private int slices;
        private int burnt;
        private int owed;
        private int now;
        private final int[] draughts = new int[MOST_DOORS];
        private int doors;
        /** A bit for each door that is open. */
        private int openDoors;
        private final int[] pinParty = new int[MOST_PINS];
        private final int[] pinSlice = new int[MOST_PINS];
        private final int[] pinTold = new int[MOST_PINS];
        private int pins;
        private final Benches benches = new Benches();
        private final int[] burntAhead = new int[MOST_UNDOABLE];
        private final int[] owedAhead = new int[MOST_UNDOABLE];
        private int undoable;

        Chamber() {
            lightAnew(10);
        }

        int lightAnew(int n) {
            if (!within(n, 1, MOST_SLICES)) {
                return BAD;
            }
            int was = slices;
            slices = n;
            for (int i = 0; i < MOST_SLICES; i++) {
                thickness[i] = 4;
            }
            burnt = 0;
            owed = 0;
            now = 0;
            doors = 0;
            openDoors = 0;
            pins = 0;
            undoable = 0;
            benches.sendAllHome();
            return was;
        }

        int makeThick(int slice, int k) {
            if (!within(slice, 0, slices - 1) || !within(k, 1, 9)) {
                return BAD;
            }
            if (burnt > waxAbove(slice)) {
                return NO;
            }
            int was = thickness[slice];
            thickness[slice] = k;
            return was;
        }

        int addDoor(int draught) {
            if (!within(draught, 0, 3)) {
                return BAD;
            }
            if (doors >= MOST_DOORS) {
                return FULL;
            }
            draughts[doors] = draught;
            doors++;
            return doors - 1;
        }

        int turnDoor(int door, boolean opens) {
            if (!hasDoor(door)) {
                return BAD;
            }
            if (isOpen(door) == opens) {
                return NO;
            }
            openDoors ^= 1 << door;
            return 1;
        }

        int addPin(int party, int slice) {
            if (!isParty(party) || !within(slice, 0, slices - 1)) {
                return BAD;
            }
            if (isPast(slice)) {
                return NO;
            }
            if (pins >= MOST_PINS) {
                return FULL;
            }
            pinParty[pins] = party;
            pinSlice[pins] = slice;
            pinTold[pins] = NONE;
            pins++;
            return pins - 1;
        }

        int dropPin() {
            if (pins == 0) {
                return NO;
            }
            pins--;
            return pins;
        }

        int tellFall(int pin, int minute) {
            int was = pinTold[pin];
            pinTold[pin] = minute;
            return was;
        }

        boolean hasDoor(int door) {
            return within(door, 0, doors - 1);
        }

        boolean isOpen(int door) {
            return (openDoors >> door & 1) == 1;
        }

        boolean hasPin(int pin) {
            return within(pin, 0, pins - 1);
        }

        boolean isPinDown(int pin) {
            return isPast(pinSlice[pin]);
        }

        /** Nothing is above slice 0: its pins wait for minute 0 all the same. */
        boolean isPast(int slice) {
            return now > 0 && burnt >= waxAbove(slice);
        }

        int waxAbove(int slice) {
            int sum = 0;
            for (int i = 0; i < slice && i < slices; i++) {
                sum += thickness[i];
            }
            return sum;
        }

        int allWax() {
            return waxAbove(slices);
        }

        int draughtOf(int doorBits) {
            int sum = 0;
            for (int i = 0; i < doors; i++) {
                if ((doorBits >> i & 1) == 1) {
                    sum += draughts[i];
                }
            }
            return sum;
        }

        /** What a minute burns, were there wax enough. */
        int flame(int minute) {
            return 1 + draughtOf(openDoors) + benches.breathOfAll(minute);
        }

        void passMinute() {
            if (undoable == MOST_UNDOABLE) {
                forgetOldest();
            }
            burntAhead[undoable] = burnt;
            owedAhead[undoable] = owed;
            undoable++;
            // Only wax that is there can drip, so what drips is taken from what is gone.
            int gone = Math.min(flame(now), allWax() - burnt);
            burnt += gone;
            owed += gone > DRIPLESS ? (gone - DRIPLESS) / 2 : 0;
            now++;
        }

        private void forgetOldest() {
            System.arraycopy(burntAhead, 1, burntAhead, 0, MOST_UNDOABLE - 1);
            System.arraycopy(owedAhead, 1, owedAhead, 0, MOST_UNDOABLE - 1);
            undoable--;
        }

        int takeMinuteBack() {
            if (undoable == 0) {
                return NO;
            }
            undoable--;
            burnt = burntAhead[undoable];
            owed = owedAhead[undoable];
            now--;
            return 1;
        }

        int slicesOwed() {
            int whole = 0;
            while (whole < slices && waxAbove(whole + 1) <= owed) {
                whole++;
            }
            return whole;
        }

        void becomeLike(Chamber that) {
            slices = that.slices;
            burnt = that.burnt;
            owed = that.owed;
            now = that.now;
            doors = that.doors;
            openDoors = that.openDoors;
            pins = that.pins;
            undoable = that.undoable;
            System.arraycopy(that.thickness, 0, thickness, 0, MOST_SLICES);
            System.arraycopy(that.draughts, 0, draughts, 0, MOST_DOORS);
            System.arraycopy(that.pinParty, 0, pinParty, 0, MOST_PINS);
            System.arraycopy(that.pinSlice, 0, pinSlice, 0, MOST_PINS);
            System.arraycopy(that.pinTold, 0, pinTold, 0, MOST_PINS);
            System.arraycopy(that.burntAhead, 0, burntAhead, 0, MOST_UNDOABLE);
            System.arraycopy(that.owedAhead, 0, owedAhead, 0, MOST_UNDOABLE);
            benches.becomeLike(that.benches);
        }

        long digestFrom(long start) {
            long h = start;
            for (int i = 0; i < slices; i++) {
                h = 31 * h + thickness[i];
            }
            for (int i = 0; i < doors; i++) {
                h = 31 * h + draughts[i];
                h = 31 * h + (isOpen(i) ? 1 : 0);
            }
            for (int i = 0; i < pins; i++) {
                h = 31 * h + pinParty[i];
                h = 31 * h + pinSlice[i];
                h = 31 * h + pinTold[i];
            }
            return h;
        }
    }

    /** The minutes to come of a chamber, which it never changes. */
    private static final class Outlook {
        private static final int FAR = 200;
        private static final int PAIRS = 4;

        private final Chamber chamber;
        /** Breath does not hang on doors: it is felt once, however many sets of doors are tried. */
        private final int[] breath = new int[FAR];
        /** What is burnt behind each minute to come, by the last look ahead. */
        private final int[] behind = new int[FAR];
        /** The game's gains; pair 2 a + b: a the one's door, b the other's (0 shut, 1 open). */
        private final int[] gainOfOne = new int[PAIRS];
        private final int[] gainOfOther = new int[PAIRS];

        Outlook(Chamber chamber) {
            this.chamber = chamber;
        }

        private void feelBreath() {
            for (int i = 0; i < FAR; i++) {
                breath[i] = chamber.benches.breathOfAll(chamber.now + i);
            }
        }

        private void lookAhead(int doorBits) {
            burnAhead(chamber.burnt, chamber.allWax(), doorBits);
        }

        private void burnAhead(int burnt, int wax, int doorBits) {
            int gone = burnt;
            int steady = 1 + chamber.draughtOf(doorBits);
            for (int i = 0; i < FAR; i++) {
                gone = Math.min(wax, gone + steady + breath[i]);
                behind[i] = gone;
            }
        }

        private int minutesTill(int goal) {
            for (int i = 0; i < FAR; i++) {
                if (behind[i] >= goal) {
                    return i + 1;
                }
            }
            return NONE;
        }

        private int minuteOf(int goal) {
            int minutes = minutesTill(goal);
            return minutes == NONE ? NONE : chamber.now + minutes - 1;
        }

        private int foreseenFall(int pin) {
            return chamber.isPinDown(pin) ? NONE : minuteOf(chamber.waxAbove(chamber.pinSlice[pin]));
        }

        int fallMinute(int pin) {
            feelBreath();
            lookAhead(chamber.openDoors);
            return foreseenFall(pin);
        }

        private boolean isOut() {
            return chamber.burnt >= chamber.allWax();
        }

        int outMinute() {
            if (isOut()) {
                return NONE;
            }
            feelBreath();
            lookAhead(chamber.openDoors);
            return minuteOf(chamber.allWax());
        }

        int houseAtFall(int pin) {
            int minute = fallMinute(pin);
            return minute == NONE ? NONE : chamber.benches.strongest(minute);
        }

        int wordsRead(int words, int aMinute, int pin) {
            int minute = fallMinute(pin);
            return minute == NONE ? NONE : Math.min(words, aMinute * (minute - chamber.now + 1));
        }

        /** Pins do not hinder one another, so two stand best in the slice that is best for one. */
        int bestPins(int party, int m, int what) {
            feelBreath();
            lookAhead(chamber.openDoors);
            int best = NONE;
            int most = NONE;
            for (int slice = 0; slice < chamber.slices; slice++) {
                if (!chamber.isPast(slice)) {
                    int minute = minuteOf(chamber.waxAbove(slice));
                    int gain = minute != NONE && chamber.benches.strongest(minute) == party ? 1 : 0;
                    if (gain > most) {
                        most = gain;
                        best = slice;
                    }
                }
            }
            if (best == NONE) {
                return NONE;
            }
            if (what == 0) {
                return most * m;
            }
            return what <= m ? best : NONE;
        }

        int fewestToShut(int pin, int t) {
            feelBreath();
            int best = NONE;
            for (int bits = 0; bits < 1 << chamber.doors; bits++) {
                boolean allOpen = (bits & ~chamber.openDoors) == 0;
                boolean fewer = best == NONE || Integer.bitCount(bits) < Integer.bitCount(best);
                if (allOpen && fewer && fallsNoSooner(pin, t, chamber.openDoors & ~bits)) {
                    best = bits;
                }
            }
            return best;
        }

        private boolean fallsNoSooner(int pin, int t, int doorBits) {
            lookAhead(doorBits);
            int minute = foreseenFall(pin);
            return minute == NONE || minute >= t;
        }

        int doorsThatLeaned(int what) {
            feelBreath();
            int sets = 0;
            int least = NONE;
            for (int bits = 0; bits < 1 << chamber.doors; bits++) {
                if (allFallAsTold(bits)) {
                    sets++;
                    least = least == NONE ? bits : least;
                }
            }
            return what == 0 ? sets : least;
        }

        private boolean allFallAsTold(int doorBits) {
            lookAhead(doorBits);
            for (int pin = 0; pin < chamber.pins; pin++) {
                int told = chamber.pinTold[pin];
                if (told != NONE && foreseenFall(pin) != told) {
                    return false;
                }
            }
            return true;
        }

        int minutesWithQuorum(int q, int n, int what) {
            int sum = 0;
            int first = NONE;
            for (int minute = chamber.now; minute < chamber.now + n; minute++) {
                if (chamber.benches.votesOfAll(minute) >= q) {
                    sum++;
                    first = first == NONE ? minute : first;
                }
            }
            return what == 0 ? sum : first;
        }

        int minutesOfTallow(int pin, boolean twice) {
            if (chamber.isPinDown(pin)) {
                return NONE;
            }
            feelBreath();
            int wax = tallowAbove(chamber.slices, twice);
            burnAhead(Math.min(chamber.burnt, wax), wax, chamber.openDoors);
            return minutesTill(tallowAbove(chamber.pinSlice[pin], twice));
        }

        private int tallowAbove(int slice, boolean twice) {
            int sum = 0;
            for (int i = 0; i < slice && i < chamber.slices; i++) {
                int thick = chamber.thickness[i];
                sum += twice ? 2 * thick : (thick + 1) / 2;
            }
            return sum;
        }

        int firstOut(int k, int d) {
            int mine = minutesTillOut();
            int others = d < 1 ? FAR + 1 : (chamber.slices * k + d - 1) / d;
            if (mine > FAR && others > FAR) {
                return 3;
            }
            if (mine == others) {
                return 2;
            }
            return mine < others ? 0 : 1;
        }

        private int minutesTillOut() {
            if (isOut()) {
                return 0;
            }
            feelBreath();
            lookAhead(chamber.openDoors);
            int minutes = minutesTill(chamber.allWax());
            return minutes == NONE ? FAR + 1 : minutes;
        }

        void playDoors(int one, int oneDoor, int other, int otherDoor) {
            feelBreath();
            int rest = chamber.openDoors & ~(1 << oneDoor) & ~(1 << otherDoor);
            for (int pair = 0; pair < PAIRS; pair++) {
                lookAhead(rest | pair / 2 << oneDoor | pair % 2 << otherDoor);
                gainOfOne[pair] = gainOf(one);
                gainOfOther[pair] = gainOf(other);
            }
        }

        private int gainOf(int party) {
            int gain = 0;
            for (int pin = 0; pin < chamber.pins; pin++) {
                int minute = foreseenFall(pin);
                int owner = chamber.pinParty[pin];
                if (minute != NONE && chamber.benches.strongest(minute) == owner) {
                    gain += owner == party ? 1 : -1;
                }
            }
            return gain;
        }

        int pairsThatRest(int what) {
            int sum = 0;
            int first = NONE;
            for (int pair = 0; pair < PAIRS; pair++) {
                boolean oneStays = gainOfOne[pair] >= gainOfOne[pair ^ 2];
                boolean otherStays = gainOfOther[pair] >= gainOfOther[pair ^ 1];
                if (oneStays && otherStays) {
                    sum++;
                    first = first == NONE ? 10 * (pair / 2) + pair % 2 : first;
                }
            }
            return what == 0 ? sum : first;
        }

        int burntAmongMoths(int m, int w, int seed) {
            long x = seed;
            int gone = chamber.burnt;
            for (int i = 0; i < m; i++) {
                x = (x * 1103515245L + 12345L) % 2147483648L;
                if (x / 65536 % 100 >= w) {
                    gone += chamber.flame(chamber.now + i);
                }
            }
            return Math.min(gone, chamber.allWax());
        }
    }

    /** The text, and how it is read: token by token, each item told to a draft at once. */
    private static final class Script {
        private static final int ROOM = 150;
        private static final int FAULT = -10;
        private static final int REFUSED = -1000;
        private static final int MOST_FIGURES = 2;
        private static final int CANDLE = 0, THICK = 1, DOOR = 2, OPEN = 3, PIN = 4, MEMBER = 5;
        private static final int[] NUMBERS_BEHIND = {1, 2, 1, 1, 2, 4};
        private static final int WORD = 0, NUMBER = 1, STOP = 2, END = 3, WRONG = 4;

        private final byte[] bytes = new byte[ROOM];
        private int length;
        /** Where the search for the next token goes on. */
        private int place;
        private int tokenSort;
        private int tokenStart;
        /** Which word (NONE: it is none), or the number. */
        private int tokenValue;
        private final int[] numbers = new int[4];

        int append(int c) {
            if (!within(c, 0, 127)) {
                return BAD;
            }
            if (length >= ROOM) {
                return FULL;
            }
            bytes[length] = (byte) c;
            length++;
            return length;
        }

        int empty() {
            int had = length;
            length = 0;
            return had;
        }

        /** A fault anywhere goes ahead of a refused item, so the whole text is read in any case. */
        int tellTo(Chamber draft) {
            place = 0;
            int refused = NONE;
            for (int item = 0; item <= ROOM; item++) {
                takeToken();
                if (tokenSort == END && item > 0) {
                    return refused == NONE ? item : REFUSED - refused;
                }
                int word = tokenValue;
                if (!beginsItem(item) || !takeNumbers(NUMBERS_BEHIND[word]) || !takeStop()) {
                    return FAULT - tokenStart;
                }
                if (refused == NONE && tellItem(draft, word) < 0) {
                    refused = item;
                }
            }
            return FAULT - length;
        }

        private boolean beginsItem(int item) {
            return tokenSort == WORD && tokenValue != NONE && (tokenValue == CANDLE) == (item == 0);
        }

        private boolean takeNumbers(int howMany) {
            for (int i = 0; i < howMany && i < numbers.length; i++) {
                takeToken();
                if (tokenSort != NUMBER) {
                    return false;
                }
                numbers[i] = tokenValue;
            }
            return true;
        }

        private boolean takeStop() {
            takeToken();
            return tokenSort == STOP;
        }

        private int tellItem(Chamber draft, int word) {
            switch (word) {
                case CANDLE: return draft.lightAnew(numbers[0]);
                case THICK: return draft.makeThick(numbers[0], numbers[1]);
                case DOOR: return draft.addDoor(numbers[0]);
                case OPEN: return draft.turnDoor(numbers[0], true);
                case PIN: return draft.addPin(numbers[0], numbers[1]);
                default: return draft.benches.seat(numbers[0], numbers[1], numbers[2], numbers[3]);
            }
        }

        private void takeToken() {
            while (place < length && bytes[place] == ' ') {
                place++;
            }
            tokenStart = place;
            tokenValue = NONE;
            if (place >= length) {
                tokenSort = END;
            } else if (isLetter(bytes[place])) {
                takeWord();
            } else if (isFigure(bytes[place])) {
                takeNumber();
            } else {
                tokenSort = bytes[place] == ';' ? STOP : WRONG;
                place++;
            }
        }

        private void takeWord() {
            while (place < length && isLetter(bytes[place])) {
                place++;
            }
            tokenSort = WORD;
            for (int word = CANDLE; word <= MEMBER && tokenValue == NONE; word++) {
                if (isSpelt(spelling(word))) {
                    tokenValue = word;
                }
            }
        }

        /** A third figure makes the whole number one that can not stand anywhere. */
        private void takeNumber() {
            int value = 0;
            while (place < length && isFigure(bytes[place])) {
                value = place - tokenStart < MOST_FIGURES ? 10 * value + bytes[place] - '0' : value;
                place++;
            }
            tokenSort = place - tokenStart <= MOST_FIGURES ? NUMBER : WRONG;
            tokenValue = value;
        }

        private boolean isSpelt(String word) {
            if (place - tokenStart != word.length()) {
                return false;
            }
            for (int i = 0; i < word.length(); i++) {
                if (bytes[tokenStart + i] != word.charAt(i)) {
                    return false;
                }
            }
            return true;
        }

        private static String spelling(int word) {
            switch (word) {
                case CANDLE: return "candle";
                case THICK: return "thick";
                case DOOR: return "door";
                case OPEN: return "open";
                case PIN: return "pin";
                default: return "member";
            }
        }

        private static boolean isLetter(int c) {
            return within(c, 'a', 'z');
        }

        private static boolean isFigure(int c) {
            return within(c, '0', '9');
        }
    }
}
