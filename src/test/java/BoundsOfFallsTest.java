import java.math.BigInteger;

/** Promises 18 to 31, "what falls when": each sentence that names a bound, at the bound and on either side of it. */
public final class BoundsOfFallsTest {
    private static final int NONE = CandleHouse.NONE, BAD = CandleHouse.BAD, TEN = -10;
    private static final Due DUE = new Due("BoundsOfFallsTest");
    private static final Watch WATCH = new Watch(DUE);
    /** 4 drops above PIN 0, 1 a MINUTE: it falls in MINUTE 3. */
    private static final String PIN_IN_3 = "candle 3;pin 0 1;";
    /** SLICES begin at 0, 2, 5, 1 a MINUTE: PINS there would fall in MINUTES 0, 1, 4. */
    private static final String STEPS = "candle 3;thick 0 2;thick 1 3;";

    public static void main(String[] args) {
        fallsBehindTheLastDrop();
        fallsNoneIfItFell();
        outBehindTheLastDrop();
        whoseInThatMinute();
        readsWordsAtMost();
        readsMinutesTillTheFall();
        setWhereOneMayBePut();
        setWhileTheHouseIsIts();
        setOfLikeOnesTheFirst();
        setAsIfThereWereRoom();
        shutAtTheMinute();
        shutTheFewest();
        shutOnlyThoseThatAreOpen();
        shutRefused();
        leanToldOrNot();
        leanedSets();
        leanedOfFallenPins();
        quorumOfVotes();
        quorumOfMinutes();
        tallowCutUp();
        tallowOneAtLeast();
        tallowWithinTwoHundred();
        raceBehindFewerMinutes();
        raceOut();
        raceOfTheTallest();
        gameOfNothing();
        gameThatNeverRests();
        gameByOtherDoors();
        gameOfGainAndLoss();
        gameRefused();
        mothsByW();
        mothsWrapAround();
        mothsNoMoreThanAllWax();
        loanOfWholeSlices();
        DUE.end();
    }

    /** 171 drops above its PIN; by so many open DOORS of 3: it falls in MINUTE 170, 42, 24, 17, 13, 10. */
    private static CandleHouse tallWithDoors(int open) {
        CandleHouse x = Watch.tall();
        x.pin(0, 19);
        for (int i = 0; i < 5; i++) {
            x.door(3);
            if (i < open) {
                x.open(i, true);
            }
        }
        return x;
    }

    private static final int[] FALL_BY_OPEN = {170, 42, 24, 17, 13, 10};

    /** "FALLS: in which MINUTE (its number) a PIN will fall": 4 drops a MINUTE, of 3, 4, 5, 7, 8, 9 above. */
    private static void fallsBehindTheLastDrop() {
        int[][] due = {{1, 0}, {3, 0}, {4, 0}, {5, 1}, {7, 1}, {8, 1}, {9, 2}};
        for (int[] d : due) {
            String text = "candle 2;thick 0 " + d[0] + ";door 3;open 0;pin 0 1;";
            WATCH.asked("18 of " + d[0], () -> Watch.told(text), x -> x.falls(0), d[1]);
            WATCH.asked("20 nobody has the house then", () -> Watch.told(text), x -> x.whose(0), NONE);
            CandleHouse came = Watch.told(text, d[1]);
            DUE.is("18 of " + d[0] + ", not ahead of it", came.fallen(0), 0);
            DUE.is("18 of " + d[0] + ", in the next MINUTE", came.falls(0), d[1]);
            came.minute(1);
            DUE.is("18 of " + d[0] + ", behind it", came.fallen(0), 1);
        }
        for (int open = 0; open <= 5; open++) {
            DUE.is("18 by " + open + " DOORS", tallWithDoors(open).falls(0), FALL_BY_OPEN[open]);
        }
        WATCH.asked("18 in SLICE 0", () -> Watch.told("candle 1;pin 0 0;"), x -> x.falls(0), 0);
        breathOfMinutesToCome();
        WATCH.refused("18 PIN -1", () -> Watch.told(PIN_IN_3), x -> x.falls(-1), TEN, Watch.AS_BAD);
        WATCH.refused("18 PIN 1 of 1", () -> Watch.told(PIN_IN_3), x -> x.falls(1), TEN, Watch.AS_BAD);
        WATCH.refused("18 PIN 0 of none", CandleHouse::new, x -> x.falls(0), TEN, Watch.AS_BAD);
    }

    /** BREATH of a MINUTE to come: a patron is IN in MINUTE 1 alone, so 4 drops are BURNT behind it; at 12 in MINUTE 9. */
    private static void breathOfMinutesToCome() {
        String text = PIN_IN_3 + "door 0;door 0;member 5 1 1 2;";
        Watch.Making told = () -> {
            CandleHouse x = Watch.told(text);
            x.lean(0, 1);
            return x;
        };
        WATCH.asked("18 by BREATH", () -> Watch.told(text), x -> x.falls(0), 1);
        WATCH.asked("19 by BREATH", () -> Watch.told(text), CandleHouse::out, 9);
        WATCH.asked("20 by BREATH", () -> Watch.told(text), x -> x.whose(0), 1);
        WATCH.asked("21 by BREATH", () -> Watch.told(text), x -> x.reads(99, 5, 0), 10);
        WATCH.asked("22 by BREATH", () -> Watch.told(text), x -> x.set(1, 1, 1), 1);
        WATCH.asked("23 by BREATH", () -> Watch.told(text), x -> x.shut(0, 2), NONE);
        WATCH.asked("25 by BREATH", told, x -> x.leaned(0), 4);
        WATCH.asked("27 by BREATH", () -> Watch.told(text), x -> x.tallow(0, 1), 6);
        WATCH.asked("28 by BREATH", () -> Watch.told(text), x -> x.race(4, 1), 0);
        WATCH.asked("29 by BREATH", () -> Watch.told(PIN_IN_3 + "door 1;door 0;member 5 0 1 2;"), x -> x.game(0, 0, 1, 1, 0), 4);
    }

    /** "none (it fell, too)". */
    private static void fallsNoneIfItFell() {
        for (int minutes = 0; minutes <= 6; minutes++) {
            int m = minutes;
            boolean fell = m >= 4;
            WATCH.asked("18 behind " + m, () -> Watch.told(PIN_IN_3, m), x -> x.falls(0), fell ? NONE : 3);
            WATCH.asked("20 behind " + m, () -> Watch.told(PIN_IN_3 + "member 0 1 3 4;", m), x -> x.whose(0), fell ? NONE : 1);
            WATCH.asked("21 behind " + m, () -> Watch.told(PIN_IN_3, m), x -> x.reads(99, 2, 0), fell ? NONE : 2 * (4 - m));
            WATCH.asked("27 behind " + m, () -> Watch.told(PIN_IN_3, m), x -> x.tallow(0, 1), fell ? NONE : 8 - m);
        }
        CandleHouse x = Watch.told(PIN_IN_3, 4);
        x.undo();
        DUE.is("18 the MINUTE is undone", x.falls(0), 3);
    }

    /** "OUT: in which the candle burns down; none." */
    private static void outBehindTheLastDrop() {
        int[][] due = {{1, 0}, {3, 0}, {4, 0}, {5, 1}, {8, 1}, {9, 2}};
        for (int[] d : due) {
            String text = "candle 1;thick 0 " + d[0] + ";door 3;open 0;";
            for (int minutes = 0; minutes <= 4; minutes++) {
                int m = minutes;
                WATCH.asked("19 of " + d[0] + " behind " + m, () -> Watch.told(text, m), CandleHouse::out, m > d[1] ? NONE : d[1]);
            }
        }
        WATCH.asked("19 the latest of all", Watch::tall, CandleHouse::out, 179);
        CandleHouse x = Watch.told("candle 1;", 4);
        DUE.is("19 out", x.out(), NONE);
        x.undo();
        DUE.is("19 the MINUTE is undone", x.out(), 3);
    }

    /** "WHOSE: THE HOUSE in the MINUTE in which a PIN will fall; none": just then, not ahead of it and not behind it. */
    private static void whoseInThatMinute() {
        int[][] due = {{0, 3, NONE}, {0, 4, 2}, {3, 4, 2}, {3, 9, 2}, {4, 9, NONE}, {2, 3, NONE}};
        for (int[] d : due) {
            String text = PIN_IN_3 + "member 0 2 " + d[0] + " " + d[1] + ";";
            WATCH.asked("20 from " + d[0] + " till " + d[1], () -> Watch.told(text), x -> x.whose(0), d[2]);
        }
        WATCH.asked("20 a sleeper in MINUTE 3", () -> Watch.told(PIN_IN_3 + "member 1 2 0 9;"), x -> x.whose(0), NONE);
        WATCH.refused("20 PIN -1", () -> Watch.told(PIN_IN_3), x -> x.whose(-1), TEN, Watch.AS_BAD);
        WATCH.refused("20 PIN 1 of 1", () -> Watch.told(PIN_IN_3), x -> x.whose(1), TEN, Watch.AS_BAD);
    }

    /** "a LAW of w words (1 .. 9999)", "w at most": 5 words in each of 4 MINUTES. */
    private static void readsWordsAtMost() {
        int[][] due = {{1, 1}, {2, 2}, {19, 19}, {20, 20}, {21, 20}, {9998, 20}, {9999, 20}};
        for (int[] d : due) {
            WATCH.asked("21 of " + d[0], () -> Watch.told(PIN_IN_3), x -> x.reads(d[0], 5, 0), d[1]);
        }
        WATCH.refused("21 w 0", () -> Watch.told(PIN_IN_3), x -> x.reads(0, 5, 0), TEN, Watch.AS_BAD);
        WATCH.refused("21 w 10000", () -> Watch.told(PIN_IN_3), x -> x.reads(10000, 5, 0), TEN, Watch.AS_BAD);
        WATCH.asked("21 171 MINUTES by 58", () -> tallWithDoors(0), x -> x.reads(9999, 58, 0), 9918);
        WATCH.asked("21 171 MINUTES by 59", () -> tallWithDoors(0), x -> x.reads(9999, 59, 0), 9999);
        WATCH.asked("21 171 MINUTES by 99", () -> tallWithDoors(0), x -> x.reads(9999, 99, 0), 9999);
    }

    /** "r of which are read in each MINUTE from now on (1 .. 99), till the end of that in which a PIN falls". */
    private static void readsMinutesTillTheFall() {
        int[] right = {1, 2, 98, 99};
        for (int r : right) {
            WATCH.asked("21 by " + r, () -> Watch.told(PIN_IN_3), x -> x.reads(9999, r, 0), 4 * r);
            WATCH.asked("21 the last MINUTE by " + r, () -> Watch.told(PIN_IN_3, 3), x -> x.reads(9999, r, 0), r);
        }
        WATCH.refused("21 r 0", () -> Watch.told(PIN_IN_3), x -> x.reads(9, 0, 0), TEN, Watch.AS_BAD);
        WATCH.refused("21 r 100", () -> Watch.told(PIN_IN_3), x -> x.reads(9, 100, 0), TEN, Watch.AS_BAD);
        WATCH.refused("21 PIN 1 of 1", () -> Watch.told(PIN_IN_3), x -> x.reads(9, 9, 1), TEN, Watch.AS_BAD);
        WATCH.refused("21 BAD goes ahead of none", () -> Watch.told(PIN_IN_3, 4), x -> x.reads(0, 9, 0), TEN, Watch.AS_BAD);
    }

    /** "in SLICES in which one may be put yet", "none: there is no such SLICE". */
    private static void setWhereOneMayBePut() {
        int[] first = {0, 1, 2, 2, 2, NONE, NONE};
        for (int minutes = 0; minutes < first.length; minutes++) {
            int m = minutes;
            int due = first[m];
            WATCH.asked("22 how many, behind " + m, () -> Watch.told(STEPS, m), x -> x.set(0, 2, 0), due == NONE ? NONE : 0);
            WATCH.asked("22 the first, behind " + m, () -> Watch.told(STEPS, m), x -> x.set(0, 1, 1), due);
            WATCH.asked("22 no second, behind " + m, () -> Watch.told(STEPS, m), x -> x.set(0, 1, 2), NONE);
            WATCH.asked("22 the second, behind " + m, () -> Watch.told(STEPS, m), x -> x.set(0, 2, 2), due);
            CandleHouse x = Watch.told(STEPS, m);
            DUE.is("22 as pin has it, behind " + m, due == NONE ? x.pin(0, 2) : x.pin(0, due), due == NONE ? CandleHouse.NO : 0);
        }
        int[][] wrong = {{-1, 1, 0}, {3, 1, 0}, {0, 0, 0}, {0, 3, 0}, {0, 1, -1}, {0, 1, 3}};
        for (int[] w : wrong) {
            WATCH.refused("22 set", () -> Watch.told(STEPS), x -> x.set(w[0], w[1], w[2]), TEN, Watch.AS_BAD);
            WATCH.refused("22 BAD goes ahead of none", () -> Watch.told(STEPS, 9), x -> x.set(w[0], w[1], w[2]), TEN, Watch.AS_BAD);
        }
    }

    /** "so that most of these fall while THE HOUSE is that PARTY's": SLICE 2 falls in MINUTE 4. */
    private static void setWhileTheHouseIsIts() {
        int[][] due = {{2, 4, 0, 0}, {3, 5, 1, 2}, {4, 5, 1, 2}, {4, 99, 1, 2}, {5, 99, 0, 0}};
        for (int[] d : due) {
            String text = STEPS + "member 0 1 " + d[0] + " " + d[1] + ";";
            WATCH.asked("22 one, from " + d[0], () -> Watch.told(text), x -> x.set(1, 1, 0), d[2]);
            WATCH.asked("22 two, from " + d[0], () -> Watch.told(text), x -> x.set(1, 2, 0), 2 * d[2]);
            WATCH.asked("22 where, from " + d[0], () -> Watch.told(text), x -> x.set(1, 2, 1), d[3]);
            WATCH.asked("22 where, from " + d[0], () -> Watch.told(text), x -> x.set(1, 2, 2), d[3]);
            WATCH.asked("22 another PARTY", () -> Watch.told(text), x -> x.set(0, 2, 0), 0);
            WATCH.asked("22 another PARTY", () -> Watch.told(text), x -> x.set(2, 1, 1), 0);
        }
        String outvoted = STEPS + "member 0 1 0 9;member 3 0 4 5;";
        WATCH.asked("22 outvoted in MINUTE 4", () -> Watch.told(outvoted), x -> x.set(1, 1, 1), 0);
        WATCH.asked("22 who outvotes them", () -> Watch.told(outvoted), x -> x.set(0, 1, 1), 2);
    }

    /** "of like ones the first (the lesser SLICE ahead; both may be in one)". */
    private static void setOfLikeOnesTheFirst() {
        int[][] due = {{0, 9, 0}, {1, 9, 1}, {2, 9, 2}, {1, 2, 1}};
        for (int[] d : due) {
            String text = STEPS + "member 0 2 " + d[0] + " " + d[1] + ";";
            WATCH.asked("22 one, from " + d[0], () -> Watch.told(text), x -> x.set(2, 1, 1), d[2]);
            WATCH.asked("22 the first, from " + d[0], () -> Watch.told(text), x -> x.set(2, 2, 1), d[2]);
            WATCH.asked("22 both in one, from " + d[0], () -> Watch.told(text), x -> x.set(2, 2, 2), d[2]);
        }
        WATCH.asked("22 one SLICE alone", () -> Watch.told("candle 1;member 0 0 0 1;"), x -> x.set(0, 2, 0), 2);
        WATCH.asked("22 one SLICE alone", () -> Watch.told("candle 1;member 0 0 0 1;"), x -> x.set(0, 2, 2), 0);
    }

    /** "(as if there were room)": 8 and 9 PINS are there. */
    private static void setAsIfThereWereRoom() {
        for (int pins = 7; pins <= 9; pins++) {
            String text = STEPS + "pin 0 2;".repeat(pins) + "member 0 1 4 5;";
            WATCH.asked("22 behind " + pins, () -> Watch.told(text), x -> x.set(1, 2, 0), 2);
            WATCH.asked("22 behind " + pins, () -> Watch.told(text), x -> x.set(1, 2, 2), 2);
        }
    }

    /** "so that a PIN falls in MINUTE t or later (or never); none": no DOOR, one that is shut, one that is open. */
    private static void shutAtTheMinute() {
        int[][] due = {{0, 0}, {2, 0}, {3, 0}, {4, NONE}, {299, NONE}};
        for (int[] d : due) {
            WATCH.asked("23 no DOOR, " + d[0], () -> Watch.told(PIN_IN_3), x -> x.shut(0, d[0]), d[1]);
            WATCH.asked("23 a shut one, " + d[0], () -> Watch.told(PIN_IN_3 + "door 3;"), x -> x.shut(0, d[0]), d[1]);
            int opened = d[0] == 0 ? 0 : d[1] == 0 ? 1 : NONE;
            WATCH.asked("23 an open one, " + d[0], () -> Watch.told(PIN_IN_3 + "door 3;open 0;"), x -> x.shut(0, d[0]), opened);
        }
        WATCH.asked("23 from now on", () -> Watch.told("candle 3;pin 0 1;door 2;open 0;", 1), x -> x.shut(0, 1), 0);
        WATCH.asked("23 3 of 4 are BURNT", () -> Watch.told("candle 3;pin 0 1;door 2;open 0;", 1), x -> x.shut(0, 2), NONE);
    }

    /** "the fewest DOORS (bits; of like ones the least)": all five are open and alike. */
    private static void shutTheFewest() {
        int[] bits = {0, 1, 3, 7, 15, 31};
        for (int shut = 0; shut <= 5; shut++) {
            int latest = FALL_BY_OPEN[5 - shut];
            int b = bits[shut];
            WATCH.asked("23 up to " + latest, () -> tallWithDoors(5), x -> x.shut(0, latest), b);
            WATCH.asked("23 behind " + latest, () -> tallWithDoors(5), x -> x.shut(0, latest + 1), shut == 5 ? NONE : bits[shut + 1]);
        }
        WATCH.asked("23 the first MINUTE", () -> tallWithDoors(5), x -> x.shut(0, 0), 0);
        WATCH.asked("23 the last MINUTE", () -> tallWithDoors(5), x -> x.shut(0, 299), NONE);
        String text = "candle 2;thick 0 6;door 1;door 2;open 0;open 1;pin 0 1;";
        WATCH.asked("23 one that is more, not two", () -> Watch.told(text), x -> x.shut(0, 2), 2);
        WATCH.asked("23 both", () -> Watch.told(text), x -> x.shut(0, 3), 3);
        String three = "candle 2;thick 0 8;door 1;door 1;door 2;open 0;open 1;open 2;pin 0 1;";
        WATCH.asked("23 the third alone, not the first two", () -> Watch.told(three), x -> x.shut(0, 2), 4);
    }

    /** "of those that are open". */
    private static void shutOnlyThoseThatAreOpen() {
        for (int door = 0; door < 5; door++) {
            String text = "candle 2;door 3;door 3;door 3;door 3;door 3;open " + door + ";pin 0 1;";
            int bit = 1 << door;
            WATCH.asked("23 DOOR " + door, () -> Watch.told(text), x -> x.shut(0, 1), bit);
            WATCH.asked("23 DOOR " + door + " up to 3", () -> Watch.told(text), x -> x.shut(0, 3), bit);
            WATCH.asked("23 no DOOR more", () -> Watch.told(text), x -> x.shut(0, 4), NONE);
        }
    }

    /** "BAD: -10 (t 0 .. 299; the PIN is FALLEN, too)". */
    private static void shutRefused() {
        WATCH.refused("23 t -1", () -> Watch.told(PIN_IN_3), x -> x.shut(0, -1), TEN, Watch.AS_BAD);
        WATCH.refused("23 t 300", () -> Watch.told(PIN_IN_3), x -> x.shut(0, 300), TEN, Watch.AS_BAD);
        WATCH.refused("23 PIN -1", () -> Watch.told(PIN_IN_3), x -> x.shut(-1, 0), TEN, Watch.AS_BAD);
        WATCH.refused("23 PIN 1 of 1", () -> Watch.told(PIN_IN_3), x -> x.shut(1, 0), TEN, Watch.AS_BAD);
        WATCH.asked("23 not FALLEN yet", () -> Watch.told(PIN_IN_3, 3), x -> x.shut(0, 3), 0);
        WATCH.refused("23 FALLEN", () -> Watch.told(PIN_IN_3, 4), x -> x.shut(0, 3), TEN, Watch.AS_BAD);
        WATCH.refused("23 FALLEN", () -> Watch.told(PIN_IN_3, 4), x -> x.shut(0, 299), TEN, Watch.AS_BAD);
        WATCH.refused("23 FALLEN in SLICE 0", () -> Watch.told("candle 3;pin 0 0;", 1), x -> x.shut(0, 0), TEN, Watch.AS_BAD);
        WATCH.asked("23 SLICE 0", () -> Watch.told("candle 3;pin 0 0;"), x -> x.shut(0, 0), 0);
        WATCH.asked("23 SLICE 0", () -> Watch.told("candle 3;pin 0 0;"), x -> x.shut(0, 1), NONE);
    }

    /** "it is told (0 .. 299; none: not told)", "what was told". */
    private static void leanToldOrNot() {
        int[] right = {NONE, 0, 1, 298, 299};
        for (int ahead : right) {
            for (int minute : right) {
                CandleHouse x = Watch.told(PIN_IN_3 + "pin 0 2;");
                x.lean(1, ahead);
                DUE.is("24 " + minute + " behind " + ahead, x.lean(1, minute), ahead);
                DUE.is("24 it is told", x.lean(1, minute), minute);
                DUE.is("24 the other is not told", x.lean(0, NONE), NONE);
                WATCH.same("24 status", Watch.statuses(x), new long[3]);
            }
        }
        int[] wrong = {-3, -2, 300, 301};
        Watch.Making told = () -> {
            CandleHouse x = Watch.told(PIN_IN_3);
            x.lean(0, 7);
            return x;
        };
        for (int minute : wrong) {
            WATCH.refused("24 lean(0, " + minute + ")", told, x -> x.lean(0, minute), TEN, Watch.AS_BAD);
        }
        WATCH.refused("24 PIN -1", told, x -> x.lean(-1, 7), TEN, Watch.AS_BAD);
        WATCH.refused("24 PIN 1 of 1", told, x -> x.lean(1, 7), TEN, Watch.AS_BAD);
        WATCH.refused("24 PIN 1 of 1, NONE", told, x -> x.lean(1, NONE), TEN, Watch.AS_BAD);
    }

    private static CandleHouse leaning(int open, int told) {
        CandleHouse x = tallWithDoors(open);
        x.lean(0, told);
        return x;
    }

    /** "sets of DOORS (bits), by which, were just they open, all so told would fall just then: how many; the least; none". */
    private static void leanedSets() {
        int[] sets = {1, 5, 10, 10, 5, 1};
        for (int open = 0; open <= 5; open++) {
            int fall = FALL_BY_OPEN[open];
            int s = sets[open];
            int least = (1 << open) - 1;
            WATCH.asked("25 in " + fall, () -> leaning(2, fall), x -> x.leaned(0), s);
            WATCH.asked("25 in " + fall, () -> leaning(5, fall), x -> x.leaned(1), least);
            WATCH.asked("25 sooner than " + fall, () -> leaning(2, fall - 1), x -> x.leaned(0), 0);
            WATCH.asked("25 later than " + fall, () -> leaning(0, fall + 1), x -> x.leaned(1), NONE);
        }
        WATCH.asked("25 not told: all sets", () -> leaning(3, NONE), x -> x.leaned(0), 32);
        WATCH.asked("25 not told: the least", () -> leaning(3, NONE), x -> x.leaned(1), 0);
        WATCH.asked("25 no DOORS, no PINS", CandleHouse::new, x -> x.leaned(0), 1);
        WATCH.asked("25 no DOORS, no PINS", CandleHouse::new, x -> x.leaned(1), 0);
        WATCH.refused("25 leaned(-1)", () -> leaning(1, 10), x -> x.leaned(-1), TEN, Watch.AS_BAD);
        WATCH.refused("25 leaned(2)", () -> leaning(1, 10), x -> x.leaned(2), TEN, Watch.AS_BAD);
        Watch.Making both = () -> {
            CandleHouse x = leaning(0, 10);
            x.pin(1, 0);
            x.lean(1, 0);
            return x;
        };
        WATCH.asked("25 both so told", both, x -> x.leaned(1), 31);
        Watch.Making onlyOne = () -> {
            CandleHouse x = leaning(0, 10);
            x.pin(1, 0);
            x.lean(1, 1);
            return x;
        };
        WATCH.asked("25 only one of them", onlyOne, x -> x.leaned(0), 0);
    }

    /** "(.. MINUTES to come ..)": one that fell will fall in none. */
    private static void leanedOfFallenPins() {
        Watch.Making toCome = () -> {
            CandleHouse x = Watch.told(PIN_IN_3 + "door 0;", 3);
            x.lean(0, 3);
            return x;
        };
        Watch.Making gone = () -> {
            CandleHouse x = toCome.make();
            x.minute(1);
            return x;
        };
        WATCH.asked("25 in the next MINUTE", toCome, x -> x.leaned(0), 2);
        WATCH.asked("25 it fell", gone, x -> x.leaned(0), 0);
        WATCH.asked("25 it fell", gone, x -> x.leaned(1), NONE);
    }

    /** "QUORUM of q (1 .. 30) VOTES of all together": 6 VOTES of three PARTIES. */
    private static void quorumOfVotes() {
        String six = "candle 3;member 3 0 0 9;member 5 1 0 9;member 0 2 0 9;";
        int[][] due = {{1, 9}, {5, 9}, {6, 9}, {7, 0}, {30, 0}};
        for (int[] d : due) {
            WATCH.asked("26 of " + d[0], () -> Watch.told(six), x -> x.quorum(d[0], 60, 0), d[1]);
            WATCH.asked("26 of " + d[0], () -> Watch.told(six), x -> x.quorum(d[0], 60, 1), d[1] == 0 ? NONE : 0);
        }
        String most = "candle 3;" + "member 5 1 0 99;".repeat(6);
        WATCH.asked("26 of 18", () -> Watch.told(most), x -> x.quorum(18, 60, 0), 60);
        WATCH.asked("26 of 19", () -> Watch.told(most), x -> x.quorum(19, 60, 0), 0);
        int[][] wrong = {{0, 1, 0}, {31, 1, 0}, {-1, 1, 1}, {1, -1, 0}, {1, 61, 0}, {1, 1, -1}, {1, 1, 2}};
        for (int[] w : wrong) {
            WATCH.refused("26 quorum", () -> Watch.told(six), x -> x.quorum(w[0], w[1], w[2]), TEN, Watch.AS_BAD);
        }
    }

    /** "of the next n MINUTES (0 .. 60) in how many there is one; the first (its number); none". */
    private static void quorumOfMinutes() {
        String ten = "candle 3;member 0 0 10 20;";
        int[][] due = {{0, 0, NONE}, {1, 0, NONE}, {10, 0, NONE}, {11, 1, 10}, {12, 2, 10}, {19, 9, 10}, {20, 10, 10}, {21, 10, 10},
            {60, 10, 10}};
        for (int[] d : due) {
            WATCH.asked("26 of the next " + d[0], () -> Watch.told(ten), x -> x.quorum(1, d[0], 0), d[1]);
            WATCH.asked("26 of the next " + d[0], () -> Watch.told(ten), x -> x.quorum(1, d[0], 1), d[2]);
        }
        WATCH.asked("26 the next is the first", () -> Watch.told(ten, 10), x -> x.quorum(1, 1, 1), 10);
        WATCH.asked("26 the next is the last", () -> Watch.told(ten, 19), x -> x.quorum(1, 60, 0), 1);
        WATCH.asked("26 the next is behind them", () -> Watch.told(ten, 20), x -> x.quorum(1, 60, 1), NONE);
        WATCH.asked("26 59", () -> Watch.told("candle 3;member 0 0 59 60;"), x -> x.quorum(1, 60, 1), 59);
        WATCH.asked("26 59", () -> Watch.told("candle 3;member 0 0 59 60;"), x -> x.quorum(1, 59, 1), NONE);
        WATCH.asked("26 60", () -> Watch.told("candle 3;member 0 0 60 61;"), x -> x.quorum(1, 60, 1), NONE);
        WATCH.asked("26 60, one MINUTE later", () -> Watch.told("candle 3;member 0 0 60 61;", 1), x -> x.quorum(1, 60, 1), 60);
    }

    /** "were each SLICE half so THICK (cut up), or twice". */
    private static void tallowCutUp() {
        int[] half = {1, 1, 2, 2, 3, 3, 4, 4, 5};
        for (int k = 1; k <= 9; k++) {
            String text = "candle 2;thick 0 " + k + ";pin 0 1;";
            WATCH.asked("27 half of " + k, () -> Watch.told(text), x -> x.tallow(0, 0), half[k - 1]);
            int twice = 2 * k;
            WATCH.asked("27 twice " + k, () -> Watch.told(text), x -> x.tallow(0, 1), twice);
        }
        WATCH.asked("27 each is cut up", () -> Watch.told("candle 3;thick 0 1;thick 1 1;pin 0 2;"), x -> x.tallow(0, 0), 2);
        int[][] wrong = {{-1, 0}, {1, 0}, {0, -1}, {0, 2}};
        for (int[] w : wrong) {
            WATCH.refused("27 tallow", () -> Watch.told(PIN_IN_3), x -> x.tallow(w[0], w[1]), TEN, Watch.AS_BAD);
            WATCH.refused("27 BAD goes ahead of none", () -> Watch.told(PIN_IN_3, 4), x -> x.tallow(w[0], w[1]), TEN, Watch.AS_BAD);
        }
    }

    /** "(1 at least; what is BURNT stays so many drops, all at most)": 9 drops above, 5 of tallow, 18 of the double. */
    private static void tallowOneAtLeast() {
        int[] half = {5, 4, 3, 2, 1, 1, 1, 1, 1, NONE, NONE};
        for (int minutes = 0; minutes < half.length; minutes++) {
            int m = minutes;
            String text = "candle 2;thick 0 9;thick 1 1;pin 0 1;";
            WATCH.asked("27 half behind " + m, () -> Watch.told(text, m), x -> x.tallow(0, 0), half[m]);
            WATCH.asked("27 twice behind " + m, () -> Watch.told(text, m), x -> x.tallow(0, 1), m >= 9 ? NONE : 18 - m);
        }
        WATCH.asked("27 half, in SLICE 0", () -> Watch.told("candle 1;pin 0 0;"), x -> x.tallow(0, 0), 1);
        WATCH.asked("27 twice, in SLICE 0", () -> Watch.told("candle 1;pin 0 0;"), x -> x.tallow(0, 1), 1);
    }

    /** "up to 200 from now on": 199, 200, 201 and 202 drops, 1 a MINUTE. */
    private static void tallowWithinTwoHundred() {
        int[] due = {199, 200, NONE, NONE};
        for (int over = 0; over < due.length; over++) {
            int o = over;
            Watch.Making house = () -> {
                CandleHouse x = Watch.tall();
                x.thick(11, o < 2 ? 1 : 2);
                x.pin(0, 12);
                if (o % 2 == 0) {
                    x.member(2, 0, 0, 1);
                }
                return x;
            };
            WATCH.asked("27 behind " + (199 + o), house, x -> x.tallow(0, 1), due[o]);
        }
        Watch.Making later = () -> {
            CandleHouse x = Watch.tall();
            x.thick(11, 2);
            x.pin(0, 12);
            x.minute(2);
            return x;
        };
        WATCH.asked("27 from now on: 200 of 202 are left", later, x -> x.tallow(0, 1), 200);
    }

    /** "which is out behind fewer MINUTES": 8 by 1, 9 by 4 (cut up), 8 by 4, 9 by 9. */
    private static void raceBehindFewerMinutes() {
        int[][] due = {{8, 1, 8}, {9, 4, 3}, {8, 4, 2}, {9, 9, 1}, {9, 8, 2}, {1, 1, 1}, {1, 9, 1}, {9, 1, 9}};
        for (int[] d : due) {
            for (int wax = 1; wax <= 9; wax++) {
                String text = "candle 1;thick 0 " + wax + ";";
                int winner = wax < d[2] ? 0 : wax > d[2] ? 1 : 2;
                WATCH.asked("28 " + wax + " against " + d[2], () -> Watch.told(text), x -> x.race(d[0], d[1]), winner);
            }
        }
        int[][] wrong = {{0, 1}, {10, 1}, {1, 0}, {1, 10}, {-1, 1}, {1, -1}};
        for (int[] w : wrong) {
            WATCH.refused("28 race", () -> Watch.told(PIN_IN_3), x -> x.race(w[0], w[1]), BAD, Watch.AS_BAD);
            WATCH.refused("28 race, out", () -> Watch.told(PIN_IN_3, 12), x -> x.race(w[0], w[1]), BAD, Watch.AS_BAD);
        }
    }

    /** "(0: this one is out)": 1 MINUTE is left, 0 are. */
    private static void raceOut() {
        int[] due = {1, 1, 1, 2, 0, 0};
        for (int minutes = 0; minutes < due.length; minutes++) {
            int m = minutes;
            WATCH.asked("28 behind " + m, () -> Watch.told("candle 1;", m), x -> x.race(1, 1), due[m]);
            WATCH.asked("28 behind " + m, () -> Watch.told("candle 1;", m), x -> x.race(9, 9), due[m]);
        }
        CandleHouse x = Watch.told("candle 1;", 4);
        x.undo();
        DUE.is("28 the MINUTE is undone", x.race(1, 1), 2);
    }

    /** "3 neither in 200" can not come: 180 drops at most, 1 a MINUTE at least. */
    private static void raceOfTheTallest() {
        WATCH.asked("28 180 by 1 both", Watch::tall, x -> x.race(9, 1), 2);
        Watch.Making sooner = () -> {
            CandleHouse x = Watch.tall();
            x.member(2, 0, 98, 99);
            return x;
        };
        WATCH.asked("28 179 MINUTES", sooner, x -> x.race(9, 1), 0);
        WATCH.asked("28 against 160", sooner, x -> x.race(8, 1), 1);
    }

    /** "pairs that rest (neither would have more by its own DOOR otherwise)": where nothing is gained, all four do. */
    private static void gameOfNothing() {
        String[] texts = {"candle 3;door 1;door 3;", "candle 3;door 1;door 3;pin 0 1;pin 1 2;",
            "candle 3;door 0;door 0;pin 0 1;pin 1 2;member 0 0 0 4;member 0 1 4 9;"};
        for (String text : texts) {
            WATCH.asked("29 all rest", () -> Watch.told(text), x -> x.game(0, 0, 1, 1, 0), 4);
            WATCH.asked("29 the first", () -> Watch.told(text), x -> x.game(0, 0, 1, 1, 1), 0);
            WATCH.asked("29 burnt down", () -> Watch.told(text, 12), x -> x.game(0, 0, 1, 1, 0), 4);
        }
        String falling = "candle 2;door 1;door 0;pin 0 1;member 0 0 1 2;";
        WATCH.asked("29 by 2 it pays", () -> Watch.told(falling), x -> x.game(0, 0, 1, 1, 0), 2);
        WATCH.asked("29 by 2 it pays", () -> Watch.told(falling), x -> x.game(0, 0, 1, 1, 1), 10);
        WATCH.asked("29 the other opens it", () -> Watch.told(falling), x -> x.game(1, 1, 0, 0, 1), 1);
        WATCH.asked("29 who loses by it keeps it shut", () -> Watch.told(falling), x -> x.game(2, 0, 1, 1, 0), 2);
        WATCH.asked("29 who loses by it keeps it shut", () -> Watch.told(falling), x -> x.game(2, 0, 1, 1, 1), 0);
        WATCH.asked("29 it fell", () -> Watch.told(falling, 4), x -> x.game(0, 0, 1, 1, 0), 4);
    }

    /** "how many (0), the first (1; NONE)": by 1 or 3 it falls in MINUTE 5 or 1 and pays the one, by 2 in MINUTE 2 nobody. */
    private static void gameThatNeverRests() {
        String text = "candle 2;thick 0 6;door 1;door 1;pin 0 1;member 0 0 1 2;member 0 0 5 6;";
        WATCH.asked("29 none rests", () -> Watch.told(text), x -> x.game(0, 0, 1, 1, 0), 0);
        WATCH.asked("29 none rests", () -> Watch.told(text), x -> x.game(0, 0, 1, 1, 1), NONE);
        WATCH.asked("29 none rests, turned round", () -> Watch.told(text), x -> x.game(2, 1, 0, 0, 0), 0);
        WATCH.asked("29 both lose by it: unlike ones rest", () -> Watch.told(text), x -> x.game(1, 0, 2, 1, 0), 2);
        WATCH.asked("29 both lose by it: the first", () -> Watch.told(text), x -> x.game(1, 0, 2, 1, 1), 1);
    }

    /** Their two DOORS may be open already; others stay as they are. */
    private static void gameByOtherDoors() {
        String text = "candle 2;thick 0 6;door 1;door 1;door 3;pin 0 1;member 0 0 1 2;member 0 0 5 6;";
        String[] opened = {"", "open 0;", "open 1;", "open 0;open 1;"};
        for (String o : opened) {
            WATCH.asked("29 none rests: " + o, () -> Watch.told(text + o), x -> x.game(0, 0, 1, 1, 0), 0);
            WATCH.asked("29 by 4, 5 or 6, two: " + o, () -> Watch.told(text + o + "open 2;"), x -> x.game(0, 0, 1, 1, 0), 2);
            WATCH.asked("29 by 4, 5 or 6, the first: " + o, () -> Watch.told(text + o + "open 2;"), x -> x.game(0, 0, 1, 1, 1), 0);
            WATCH.asked("29 by 4, 5 or 6: " + o, () -> Watch.told(text + o + "open 2;"), x -> x.game(1, 1, 0, 0, 1), 0);
        }
    }

    /** "gains 1 for each PIN of its own .. loses 1 for each PIN of any other PARTY": by 2 a MINUTE each of two PINS pays its own. */
    private static void gameOfGainAndLoss() {
        String text = "candle 3;door 1;door 0;pin 0 1;pin 1 2;member 0 0 1 2;member 0 1 3 4;";
        WATCH.asked("29 1 less 1 is as much as 0", () -> Watch.told(text), x -> x.game(0, 0, 1, 1, 0), 4);
        WATCH.asked("29 1 less 1 is as much as 0", () -> Watch.told(text), x -> x.game(1, 0, 0, 1, 0), 4);
        WATCH.asked("29 2 less", () -> Watch.told(text), x -> x.game(2, 0, 0, 1, 0), 2);
        WATCH.asked("29 2 less", () -> Watch.told(text), x -> x.game(0, 1, 2, 0, 1), 0);
        WATCH.asked("29 2 less 1 is more", () -> Watch.told(text + "pin 0 1;"), x -> x.game(0, 0, 1, 1, 1), 10);
        WATCH.asked("29 1 less 2 is less", () -> Watch.told(text + "pin 1 2;"), x -> x.game(0, 0, 1, 1, 0), 2);
        WATCH.asked("29 1 less 2 is less", () -> Watch.told(text + "pin 1 2;"), x -> x.game(0, 0, 1, 1, 1), 0);
        WATCH.asked("29 another's in this one's house is nothing", () -> Watch.told(text + "pin 2 1;"), x -> x.game(0, 0, 1, 1, 0), 4);
    }

    /** "BAD: alike PARTIES or DOORS, too: -10." */
    private static void gameRefused() {
        String text = "candle 3;door 1;door 3;door 2;pin 0 1;member 0 0 0 9;";
        int[][] wrong = {{-1, 0, 1, 1, 0}, {3, 0, 1, 1, 0}, {0, -1, 1, 1, 0}, {0, 3, 1, 1, 0}, {0, 0, -1, 1, 0}, {0, 0, 3, 1, 0},
            {0, 0, 1, -1, 0}, {0, 0, 1, 3, 0}, {0, 0, 1, 1, -1}, {0, 0, 1, 1, 2}, {0, 0, 0, 1, 0}, {2, 0, 2, 1, 1}, {0, 0, 1, 0, 0},
            {0, 2, 1, 2, 1}, {1, 1, 1, 1, 1}};
        for (int[] w : wrong) {
            WATCH.refused("29 game", () -> Watch.told(text), x -> x.game(w[0], w[1], w[2], w[3], w[4]), TEN, Watch.AS_BAD);
        }
        WATCH.asked("29 the outermost", () -> Watch.told(text), x -> x.game(0, 0, 2, 2, 0), 4);
        WATCH.asked("29 the outermost", () -> Watch.told(text), x -> x.game(2, 2, 0, 0, 0), 4);
        WATCH.refused("29 one DOOR alone", () -> Watch.told("candle 3;door 1;"), x -> x.game(0, 0, 1, 1, 0), TEN, Watch.AS_BAD);
    }

    /** "X by 65536 (cut), by 100 left over, less than w: nothing burns in it"; "w (0 .. 100), m (0 .. 60)". */
    private static void mothsByW() {
        int[][] firsts = {{0, 0}, {1, 38}, {7, 64}, {999998, 90}, {999999, 28}};
        for (int[] f : firsts) {
            int seed = f[0];
            int left = f[1];
            DUE.is("30 the test's own number", left(seed, 1), left);
            WATCH.asked("30 " + left + " is not less than it", CandleHouse::new, x -> x.moths(1, left, seed), 1);
            WATCH.asked("30 " + left + " is less than 1 more", CandleHouse::new, x -> x.moths(1, left + 1, seed), 0);
            WATCH.asked("30 no MINUTES", CandleHouse::new, x -> x.moths(0, 0, seed), 0);
            WATCH.asked("30 w 0", CandleHouse::new, x -> x.moths(20, 0, seed), 20);
            WATCH.asked("30 w 100", CandleHouse::new, x -> x.moths(60, 100, seed), 0);
        }
        int[][] wrong = {{-1, 0, 0}, {61, 0, 0}, {0, -1, 0}, {0, 101, 0}, {0, 0, -1}, {0, 0, 1000000}};
        for (int[] w : wrong) {
            WATCH.refused("30 moths", () -> Watch.told(PIN_IN_3, 1), x -> x.moths(w[0], w[1], w[2]), BAD, Watch.AS_BAD);
        }
    }

    private static int left(int seed, int minute) {
        BigInteger x = BigInteger.valueOf(seed);
        for (int i = 0; i < minute; i++) {
            x = x.multiply(BigInteger.valueOf(1103515245)).add(BigInteger.valueOf(12345)).mod(BigInteger.valueOf(2147483648L));
        }
        return x.divide(BigInteger.valueOf(65536)).mod(BigInteger.valueOf(100)).intValue();
    }

    /** "X times 1103515245 and 12345, by 2147483648 what is left over": in each of 60 MINUTES. */
    private static void mothsWrapAround() {
        int[] seeds = {0, 1, 2, 65535, 65536, 999998, 999999};
        for (int seed : seeds) {
            for (int m = 1; m <= 60; m++) {
                int burning = 0;
                for (int i = 1; i <= m; i++) {
                    burning += left(seed, i) < 50 ? 0 : 1;
                }
                CandleHouse x = Watch.tall();
                DUE.is("30 SEED " + seed + ", " + m + " MINUTES", x.moths(m, 50, seed), burning);
                DUE.is("30 nothing is BURNT by it", x.count(1), 0);
                int w = left(seed, m);
                int more = x.moths(m, w, seed) - x.moths(m - 1, w, seed);
                DUE.is("30 SEED " + seed + ", MINUTE " + m + ", not less than w", more, 1);
                int none = x.moths(m, w + 1, seed) - x.moths(m - 1, w + 1, seed);
                DUE.is("30 SEED " + seed + ", MINUTE " + m + ", less than w", none, 0);
            }
        }
    }

    /** "BURNT at last": no more than all wax; from what is BURNT now on. */
    private static void mothsNoMoreThanAllWax() {
        int[] due = {0, 4, 7, 7};
        for (int minutes = 0; minutes < due.length; minutes++) {
            int m = minutes;
            String text = "candle 2;thick 1 3;door 3;open 0;";
            WATCH.asked("30 in " + m, () -> Watch.told(text), x -> x.moths(m, 0, 5), due[m]);
            WATCH.asked("30 none behind " + m, () -> Watch.told(text, m), x -> x.moths(60, 100, 5), due[m]);
            WATCH.asked("30 all behind " + m, () -> Watch.told(text, m), x -> x.moths(60, 0, 5), 7);
        }
        DUE.is("30 sixty MINUTES", Watch.tall().moths(60, 0, 0), 60);
        DUE.is("30 a MEMBER in MINUTE 1 alone", Watch.told("candle 9;member 5 0 1 2;").moths(2, 0, 0), 4);
        DUE.is("30 a MEMBER in MINUTE 2 alone", Watch.told("candle 9;member 5 0 2 3;").moths(2, 0, 0), 2);
    }

    /** "so many whole SLICES from the top are gone by what is OWED: how many, how much of OWED is left over". */
    private static void loanOfWholeSlices() {
        int[][] due = {{1, 1, 1}, {2, 1, 0}, {3, 0, 2}, {9, 0, 2}};
        for (int[] d : due) {
            Watch.Making two = () -> Watch.told("candle 9;thick 0 " + d[0] + ";door 3;door 3;open 0;open 1;", 1);
            DUE.is("31 OWED is 2", two.make().count(7), 2);
            WATCH.asked("31 of " + d[0], two, x -> x.loan(0), d[1]);
            WATCH.asked("31 left over of " + d[0], two, x -> x.loan(1), d[2]);
        }
        WATCH.asked("31 none is OWED", CandleHouse::new, x -> x.loan(0), 0);
        WATCH.asked("31 none is OWED", CandleHouse::new, x -> x.loan(1), 0);
        int[] slices = {0, 0, 1, 1, 2, 3};
        int[] left = {0, 2, 1, 3, 1, 0};
        for (int minutes = 0; minutes < slices.length; minutes++) {
            int m = minutes;
            Watch.Making owing = () -> Watch.told("candle 12;thick 0 3;thick 2 3;door 3;door 3;open 0;open 1;", m);
            WATCH.asked("31 SLICES behind " + m, owing, x -> x.loan(0), slices[m]);
            WATCH.asked("31 left over behind " + m, owing, x -> x.loan(1), left[m]);
        }
        WATCH.refused("31 loan(-1)", () -> Watch.told(PIN_IN_3, 1), x -> x.loan(-1), BAD, Watch.AS_BAD);
        WATCH.refused("31 loan(2)", () -> Watch.told(PIN_IN_3, 1), x -> x.loan(2), BAD, Watch.AS_BAD);
    }
}
