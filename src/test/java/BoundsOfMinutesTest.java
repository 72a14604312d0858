/** Promises 12 to 17, "minutes": each sentence that names a bound, at the bound and on either side of it. */
public final class BoundsOfMinutesTest {
    private static final int NONE = CandleHouse.NONE, BAD = CandleHouse.BAD, NO = CandleHouse.NO, TEN = -10;
    private static final int MOST_UNDOABLE = 12;
    private static final Due DUE = new Due("BoundsOfMinutesTest");
    private static final Watch WATCH = new Watch(DUE);

    public static void main(String[] args) {
        minutesFromOneToTwenty();
        minutesOneByOne();
        minutesFarOn();
        noMoreThanAllWax();
        drips();
        dripsOfTheLastWax();
        undoTwelveAtMost();
        undoNone();
        undoWhatWasAhead();
        whatIsToldLeavesUndo();
        houseOfTheMost();
        houseOfLikeOnes();
        houseOfNobody();
        minutesAskedFor();
        inFromTill();
        kindsByMinutes();
        burnsWhateverWaxThereIs();
        fallenBehindTheLastDrop();
        fallenInSliceZero();
        DUE.end();
    }

    /** 4 drops a MINUTE of 40, of which 2 went by. */
    private static CandleHouse busy() {
        return Watch.told("candle 10;door 3;open 0;pin 0 2;pin 1 9;member 0 2 0 9;", 2);
    }

    /** A tall candle, of which so many drops burn in MINUTE 0 (1 .. 28). */
    private static CandleHouse burning(int drops) {
        CandleHouse x = Watch.tall();
        int left = drops - 1;
        for (int i = 0; i < 5; i++) {
            int draught = Math.min(3, left);
            x.open(x.door(draught), true);
            left -= draught;
        }
        while (left > 0) {
            x.member(left > 1 ? 5 : 2, 0, 0, 99);
            left -= Math.min(2, left);
        }
        return x;
    }

    /** "n MINUTES (1 .. 20), each of which may be undone: BURNT. BAD." */
    private static void minutesFromOneToTwenty() {
        int[] wrong = {-20, -1, 0, 21, 22};
        for (int n : wrong) {
            WATCH.refused("12 minute(" + n + ")", BoundsOfMinutesTest::busy, x -> x.minute(n), BAD, Watch.AS_BAD);
            WATCH.refused("12 minute(" + n + ") at first", CandleHouse::new, x -> x.minute(n), BAD, Watch.AS_BAD);
        }
        int[] right = {1, 2, 11, 12, 13, 19, 20};
        for (int n : right) {
            int undoable = Math.min(n, MOST_UNDOABLE);
            WATCH.done("12 minute(" + n + ")", CandleHouse::new, x -> x.minute(n), n, 10, n, 40, n, 0, 0, 0, 0, undoable);
        }
        WATCH.done("12 minute(1)", BoundsOfMinutesTest::busy, x -> x.minute(1), 12, 10, 12, 40, 3, 1, 2, 1, 0, 3);
    }

    /** Twenty at once are twenty, one by one. */
    private static void minutesOneByOne() {
        CandleHouse x = burning(6);
        CandleHouse y = burning(6);
        x.minute(20);
        for (int i = 0; i < 20; i++) {
            y.minute(1);
        }
        WATCH.same("12 one by one", Watch.seen(x), Watch.seen(y));
        for (int i = 0; i < 12; i++) {
            x.undo();
            y.undo();
            WATCH.same("12 one by one, undone", Watch.seen(x), Watch.seen(y));
        }
    }

    /** "MINUTES have numbers, from 0 on": thousands of them, and calls that ask for MINUTES to come then. */
    private static void minutesFarOn() {
        CandleHouse x = Watch.told("candle 1;pin 0 0;member 1 2 0 99;");
        for (int i = 0; i < 400; i++) {
            x.minute(20);
        }
        WATCH.counts("12 far on", x, 1, 4, 4, 8000, 0, 1, 1, 0, 12);
        DUE.is("26 far on", x.quorum(1, 60, 0), 0);
        DUE.is("30 far on", x.moths(60, 0, 0), 4);
        DUE.is("19 far on", x.out(), NONE);
        DUE.is("28 far on", x.race(1, 9), 0);
        DUE.is("16 far on", x.burns(299), 1);
        DUE.is("13 far on", x.undo(), 1);
        WATCH.counts("13 far on", x, 1, 4, 4, 7999, 0, 1, 1, 0, 11);
    }

    /** "no more than all wax": 4 drops a MINUTE, of 7, 8 and 9. */
    private static void noMoreThanAllWax() {
        int[][] burnt = {{4, 7, 7, 7}, {4, 8, 8, 8}, {4, 8, 9, 9}};
        for (int i = 0; i < 3; i++) {
            CandleHouse x = Watch.told("candle 2;thick 1 " + (3 + i) + ";door 3;open 0;");
            for (int m = 0; m < 4; m++) {
                DUE.is("12 of " + (7 + i), x.minute(1), burnt[i][m]);
                WATCH.counts("12 of " + (7 + i), x, 2, burnt[i][m], 7 + i, m + 1, 1, 0, 0, 0, m + 1);
            }
        }
        CandleHouse least = Watch.told("candle 1;thick 0 1;");
        DUE.is("12 one drop", least.minute(1), 1);
        DUE.is("12 one drop", least.minute(20), 1);
        WATCH.counts("12 one drop", least, 1, 1, 1, 21, 0, 0, 0, 0, 12);
        CandleHouse most = Watch.tall();
        for (int i = 0; i < 8; i++) {
            most.minute(20);
        }
        DUE.is("12 one is left", most.minute(19), 179);
        DUE.is("12 none is left", most.minute(1), 180);
        DUE.is("12 all is gone", most.minute(1), 180);
    }

    /** "in a MINUTE that burns more than 3 drops half of those above 3 (cut) drip". */
    private static void drips() {
        int[] owed = {0, 0, 0, 0, 1, 1, 2, 2, 3, 3, 4, 4, 5, 5, 6, 6, 7, 7, 8, 8, 9, 9, 10, 10, 11, 11, 12, 12};
        for (int drops = 1; drops <= 28; drops++) {
            CandleHouse x = burning(drops);
            DUE.is("12 " + drops + " drops", x.minute(1), drops);
            DUE.is("12 of " + drops + " drip", x.count(7), owed[drops - 1]);
            x.minute(1);
            DUE.is("12 again, BURNT", x.count(1), 2 * drops);
            DUE.is("12 again, OWED", x.count(7), 2 * owed[drops - 1]);
        }
    }

    /** Of what burns: where less wax is left, less drips. 9 drops a MINUTE. */
    private static void dripsOfTheLastWax() {
        int[] owed = {0, 0, 0, 0, 1, 1, 2, 2, 3};
        for (int left = 1; left <= 9; left++) {
            CandleHouse x = Watch.told("candle 1;thick 0 " + left + ";door 3;door 3;door 2;open 0;open 1;open 2;");
            DUE.is("12 the last " + left, x.minute(1), left);
            DUE.is("12 of the last " + left, x.count(7), owed[left - 1]);
            x.minute(20);
            DUE.is("12 of none", x.count(7), owed[left - 1]);
        }
    }

    /** "(12 at most ..)": 11, 12, 13 MINUTES, at once and one by one. */
    private static void undoTwelveAtMost() {
        int[] minutes = {1, 2, 11, 12, 13, 14, 20};
        for (int n : minutes) {
            int undoable = Math.min(n, MOST_UNDOABLE);
            Watch.Making gone = () -> burnt(n, 0);
            DUE.is("13 behind " + n, gone.make().count(8), undoable);
            for (int back = 0; back < undoable; back++) {
                int b = back;
                int left = n - b - 1;
                WATCH.done("13 undo of " + n + ", behind " + b, () -> burnt(n, b), CandleHouse::undo, 1,
                    20, 6 * left, 180, left, 5, 0, 0, left, undoable - b - 1);
            }
            WATCH.refused("13 no more of " + n, () -> burnt(n, undoable), CandleHouse::undo, NO, Watch.AS_NO);
        }
        CandleHouse x = burnt(20, 12);
        DUE.is("13 room for twelve again", x.minute(13), 6 * 21);
        DUE.is("13 twelve again", x.count(8), 12);
        CandleHouse y = burnt(20, 6);
        y.minute(6);
        DUE.is("13 six and six", y.count(8), 12);
        y.minute(1);
        DUE.is("13 one of them is gone", y.count(8), 12);
        for (int i = 0; i < 12; i++) {
            y.undo();
        }
        DUE.is("13 behind MINUTES", y.count(3), 9);
        DUE.is("13 BURNT", y.count(1), 54);
        DUE.is("13 no more", y.undo(), NO);
    }

    /** 6 drops a MINUTE, 1 of which drips; so many MINUTES, so many of them undone. */
    private static CandleHouse burnt(int minutes, int undone) {
        CandleHouse x = burning(6);
        x.minute(minutes);
        for (int i = 0; i < undone; i++) {
            x.undo();
        }
        return x;
    }

    /** "NO: none may be." */
    private static void undoNone() {
        WATCH.refused("13 at first", CandleHouse::new, CandleHouse::undo, NO, Watch.AS_NO);
        WATCH.refused("13 all is undone", () -> burnt(3, 3), CandleHouse::undo, NO, Watch.AS_NO);
        Watch.Making lit = () -> {
            CandleHouse x = busy();
            x.candle(10);
            return x;
        };
        WATCH.refused("13 a new candle", lit, CandleHouse::undo, NO, Watch.AS_NO);
        Watch.Making read = () -> {
            CandleHouse x = busy();
            x.read();
            return x;
        };
        WATCH.refused("13 a CHAMBER read", read, CandleHouse::undo, NO, Watch.AS_NO);
        Watch.Making refused = () -> {
            CandleHouse x = new CandleHouse();
            x.minute(0);
            x.minute(21);
            return x;
        };
        WATCH.refused("13 refused MINUTES are none", refused, CandleHouse::undo, NO, Watch.AS_NO);
    }

    /** "BURNT, OWED and the MINUTE's number as ahead of the last MINUTE": where the wax was out, too. */
    private static void undoWhatWasAhead() {
        CandleHouse x = Watch.told("candle 2;thick 0 9;thick 1 9;door 3;door 3;door 3;open 0;open 1;open 2;");
        int[] burnt = {0, 10, 18, 18, 18};
        int[] owed = {0, 3, 5, 5, 5};
        x.minute(4);
        for (int left = 4; left > 0; left--) {
            WATCH.counts("13 behind " + left, x, 2, burnt[left], 18, left, 3, 0, 0, owed[left], left);
            DUE.is("13 undo", x.undo(), 1);
        }
        WATCH.counts("13 behind none", x, 2, 0, 18, 0, 3, 0, 0, 0, 0);
        DUE.is("13 MINUTE 0 again", x.pin(0, 0), 0);
    }

    /** "all that is told leaves it". */
    private static void whatIsToldLeavesUndo() {
        CandleHouse x = busy();
        x.thick(9, 9);
        x.door(2);
        x.open(1, true);
        x.open(0, false);
        x.pin(2, 8);
        x.member(3, 1, 0, 9);
        x.lean(1, 7);
        x.drop(1);
        x.type(';');
        x.image(0);
        DUE.is("13 it is left", x.count(8), 2);
        DUE.is("13 undo", x.undo(), 1);
        DUE.is("13 undo", x.undo(), 1);
        WATCH.counts("13 what is told stays", x, 10, 0, 45, 0, 2, 3, 1, 0, 0);
        DUE.is("13 THICK stays", x.thick(9, 9), 9);
        DUE.is("13 DOORS stay", x.burns(0), 3);
        DUE.is("13 what was told stays", x.lean(1, 7), 7);
        DUE.is("13 THE TEXT is none of it", x.clear() > 0 ? 1 : 0, 1);
        DUE.is("13 no more", x.undo(), NO);
    }

    /** "THE HOUSE in a MINUTE is of the PARTY whose MEMBERS have most VOTES then": one more, alike, one fewer. */
    private static void houseOfTheMost() {
        String two = "candle 3;member 3 1 0 9;";
        DUE.is("14 1 against 2", Watch.told(two + "member 0 0 0 9;").house(0), 1);
        DUE.is("14 2 against 2", Watch.told(two + "member 0 0 0 9;member 0 0 0 9;").house(0), 0);
        DUE.is("14 3 against 2", Watch.told(two + "member 5 2 0 9;").house(0), 2);
        DUE.is("14 2 of another", Watch.told(two + "member 3 2 0 9;").house(0), 1);
        DUE.is("14 all six", Watch.told("candle 3;" + "member 5 2 0 9;".repeat(6)).votes(2, 0), 18);
    }

    /** "of like ones the least". */
    private static void houseOfLikeOnes() {
        int[][] parties = {{0, 1, 2}, {2, 1, 0}, {1, 2}, {2, 1}, {2, 0}, {0, 1}};
        int[] house = {0, 0, 1, 1, 0, 0};
        for (int i = 0; i < parties.length; i++) {
            CandleHouse x = new CandleHouse();
            for (int party : parties[i]) {
                x.member(0, party, 0, 1);
            }
            DUE.is("14 alike " + i, x.house(0), house[i]);
            DUE.is("14 nobody " + i, x.house(1), NONE);
        }
    }

    /** "none, if nobody has any": nobody is IN, or those who are sleep. */
    private static void houseOfNobody() {
        WATCH.asked("14 no MEMBERS", CandleHouse::new, x -> x.house(0), NONE);
        Watch.Making sleepers = () -> Watch.told("candle 3;member 1 2 0 9;member 4 0 0 9;");
        WATCH.asked("14 they wake", sleepers, x -> x.house(0), 0);
        WATCH.asked("14 they sleep", sleepers, x -> x.house(1), NONE);
        WATCH.asked("14 they wake", sleepers, x -> x.house(8), 0);
        WATCH.asked("14 they are out", sleepers, x -> x.house(10), NONE);
        WATCH.asked("15 they sleep", sleepers, x -> x.votes(2, 1), 0);
    }

    /** "in a MINUTE (0 .. 299)", "BAD: -10", "BAD": whatever MINUTE it is now. */
    private static void minutesAskedFor() {
        int[] wrong = {-1, 300, 301};
        for (int minute : wrong) {
            WATCH.refused("14 house(" + minute + ")", BoundsOfMinutesTest::busy, x -> x.house(minute), TEN, Watch.AS_BAD);
            WATCH.refused("15 votes(2, " + minute + ")", BoundsOfMinutesTest::busy, x -> x.votes(2, minute), BAD, Watch.AS_BAD);
            WATCH.refused("16 burns(" + minute + ")", BoundsOfMinutesTest::busy, x -> x.burns(minute), BAD, Watch.AS_BAD);
        }
        int[] right = {0, 1, 8, 9, 298, 299};
        for (int minute : right) {
            boolean in = minute < 9;
            WATCH.asked("14 house(" + minute + ")", BoundsOfMinutesTest::busy, x -> x.house(minute), in ? 2 : NONE);
            WATCH.asked("15 votes(2, " + minute + ")", BoundsOfMinutesTest::busy, x -> x.votes(2, minute), in ? 1 : 0);
            WATCH.asked("16 burns(" + minute + ")", BoundsOfMinutesTest::busy, x -> x.burns(minute), 4);
        }
        for (int party = 0; party < 3; party++) {
            int p = party;
            WATCH.asked("15 PARTY " + p, BoundsOfMinutesTest::busy, x -> x.votes(p, 0), p == 2 ? 1 : 0);
        }
        WATCH.refused("15 PARTY -1", BoundsOfMinutesTest::busy, x -> x.votes(-1, 0), BAD, Watch.AS_BAD);
        WATCH.refused("15 PARTY 3", BoundsOfMinutesTest::busy, x -> x.votes(3, 0), BAD, Watch.AS_BAD);
        CandleHouse late = busy();
        for (int i = 0; i < 16; i++) {
            late.minute(20);
        }
        DUE.is("14 now is 322, 299", late.house(299), NONE);
        DUE.is("14 now is 322, 300", late.house(300), TEN);
        DUE.is("14 a MINUTE gone by", late.house(8), 2);
    }

    /** "IN from a MINUTE on (0 .. 99) till one (0 .. 99; not in it any more)". */
    private static void inFromTill() {
        int[][] spans = {{5, 8}, {0, 1}, {0, 99}, {98, 99}, {5, 6}, {0, 0}, {5, 5}, {99, 99}, {8, 5}, {99, 0}};
        for (int[] s : spans) {
            CandleHouse x = new CandleHouse();
            x.member(5, 1, s[0], s[1]);
            int[] minutes = {0, 1, 4, 5, 6, 7, 8, 9, 97, 98, 99, 100, 198, 298, 299};
            for (int minute : minutes) {
                boolean in = s[0] <= minute && minute < s[1];
                String what = " in " + minute + ", from " + s[0] + " till " + s[1];
                DUE.is("15" + what, x.votes(1, minute), in ? 3 : 0);
                DUE.is("14" + what, x.house(minute), in ? 1 : NONE);
                DUE.is("16" + what, x.burns(minute), in ? 3 : 1);
            }
        }
    }

    /** KINDS: in MINUTES of an even number, of an odd one; 0 is even. */
    private static void kindsByMinutes() {
        int[][] votes = {{1, 1}, {1, 0}, {1, 1}, {2, 2}, {1, 0}, {3, 3}};
        int[][] breath = {{0, 0}, {0, 0}, {1, 1}, {0, 0}, {0, 1}, {2, 2}};
        int[] minutes = {0, 1, 2, 97, 98};
        for (int kind = 0; kind < 6; kind++) {
            CandleHouse x = new CandleHouse();
            x.member(kind, 0, 0, 99);
            for (int minute : minutes) {
                DUE.is("15 KIND " + kind + " in " + minute, x.votes(0, minute), votes[kind][minute % 2]);
                DUE.is("16 KIND " + kind + " in " + minute, x.burns(minute), 1 + breath[kind][minute % 2]);
            }
            DUE.is("12 KIND " + kind + " in 0", x.minute(1), 1 + breath[kind][0]);
            DUE.is("12 KIND " + kind + " in 1", x.minute(1), 2 + breath[kind][0] + breath[kind][1]);
        }
    }

    /** "whatever wax there is": some, too little, none. */
    private static void burnsWhateverWaxThereIs() {
        for (int minutes = 0; minutes < 4; minutes++) {
            int m = minutes;
            WATCH.asked("16 behind " + m, () -> Watch.told("candle 1;thick 0 5;door 3;open 0;", m), x -> x.burns(m), 4);
        }
        DUE.is("16 the most", burning(28).burns(0), 28);
        DUE.is("16 the least", new CandleHouse().burns(0), 1);
    }

    /** "in the first MINUTE of all behind which all wax of the SLICES above its own is BURNT": one drop less, all, more. */
    private static void fallenBehindTheLastDrop() {
        for (int above = 1; above <= 9; above++) {
            String text = "candle 2;thick 0 " + above + ";pin 0 1;";
            for (int minutes = 0; minutes <= 10; minutes++) {
                int m = minutes;
                WATCH.asked("17 BURNT " + m + " of " + above, () -> Watch.told(text, m), x -> x.fallen(0), m >= above ? 1 : 0);
            }
            DUE.is("17 4 at once of " + above, Watch.told(text + "door 3;open 0;", 1).fallen(0), above <= 4 ? 1 : 0);
        }
        CandleHouse x = Watch.told("candle 3;pin 0 2;", 8);
        DUE.is("17 it fell", x.fallen(0), 1);
        x.undo();
        DUE.is("17 the MINUTE is undone", x.fallen(0), 0);
        x.minute(1);
        DUE.is("17 it fell again", x.fallen(0), 1);
        x.minute(20);
        DUE.is("17 it stays so", x.fallen(0), 1);
        WATCH.refused("17 PIN -1", BoundsOfMinutesTest::busy, y -> y.fallen(-1), BAD, Watch.AS_BAD);
        WATCH.refused("17 PIN 2 of 2", BoundsOfMinutesTest::busy, y -> y.fallen(2), BAD, Watch.AS_BAD);
    }

    /** "(in SLICE 0: in MINUTE 0)". */
    private static void fallenInSliceZero() {
        for (int minutes = 0; minutes < 3; minutes++) {
            int m = minutes;
            WATCH.asked("17 behind " + m, () -> Watch.told("candle 2;pin 0 0;", m), x -> x.fallen(0), m > 0 ? 1 : 0);
        }
        CandleHouse x = Watch.told("candle 2;pin 0 0;", 1);
        x.undo();
        DUE.is("17 MINUTE 0 is undone", x.fallen(0), 0);
    }
}
