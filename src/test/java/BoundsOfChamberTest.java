/** Promises 1 to 8, "a chamber": each sentence that names a bound, at the bound and on either side of it. */
public final class BoundsOfChamberTest {
    private static final int NONE = CandleHouse.NONE, BAD = CandleHouse.BAD, NO = CandleHouse.NO, FULL = CandleHouse.FULL;
    private static final Due DUE = new Due("BoundsOfChamberTest");
    private static final Watch WATCH = new Watch(DUE);
    /** 2, 3, 1 and 4 drops, 1 burns in a MINUTE. */
    private static final String LAYERS = "candle 4;thick 0 2;thick 1 3;thick 2 1;";

    public static void main(String[] args) {
        aNewObject();
        slicesFromOneToTwenty();
        allAsAtFirst();
        nothingElseTold();
        thickFromOneToNine();
        thickOfASliceThereIs();
        thickWhileNoneOfItIsBurnt();
        thickBehindUndo();
        doorsFive();
        draughts();
        doorsOpenOrShut();
        pinsNine();
        pinsTwoInOne();
        pinsNotFallenAlready();
        pinsRefusedInOrder();
        membersSix();
        membersFromTill();
        dropTheLast();
        DUE.end();
    }

    /** A house of all sorts, in which MINUTES went by, an IMAGE is kept and a TEXT stands. */
    private static CandleHouse busy() {
        CandleHouse x = Watch.told("candle 6;thick 5 9;door 3;open 0;door 2;pin 2 4;pin 1 0;member 5 1 0 9;member 1 0 0 99;");
        x.lean(0, 44);
        x.image(1);
        x.minute(2);
        return x;
    }

    /** "10 at first", "4 at first", "0 at first", "As told; no DOORS, MEMBERS, PINS". */
    private static void aNewObject() {
        CandleHouse x = new CandleHouse();
        WATCH.counts("1 new", x, 10, 0, 40, 0, 0, 0, 0, 0, 0, 0);
        WATCH.same("1 status", Watch.statuses(x), new long[3]);
        for (int i = 0; i < 10; i++) {
            DUE.is("1 THICK of " + i, x.thick(i, 4), 4);
        }
        WATCH.refused("1 SLICE 10", CandleHouse::new, y -> y.thick(10, 4), BAD, Watch.AS_BAD);
        WATCH.refused("1 DOOR 0", CandleHouse::new, y -> y.open(0, true), BAD, Watch.AS_BAD);
        WATCH.refused("1 PIN 0", CandleHouse::new, y -> y.fallen(0), BAD, Watch.AS_BAD);
        WATCH.refused("1 no PIN goes", CandleHouse::new, y -> y.drop(0), NO, Watch.AS_NO);
        WATCH.refused("1 no MEMBER goes", CandleHouse::new, y -> y.drop(1), NO, Watch.AS_NO);
        WATCH.refused("1 no MINUTE back", CandleHouse::new, CandleHouse::undo, NO, Watch.AS_NO);
        WATCH.refused("1 no IMAGE 0", CandleHouse::new, y -> y.from(0), NO, Watch.AS_NO);
        WATCH.refused("1 no IMAGE 1", CandleHouse::new, y -> y.from(1), NO, Watch.AS_NO);
    }

    /** "n 1 .. 20". */
    private static void slicesFromOneToTwenty() {
        int[] wrong = {-1, 0, 21, 22, 32};
        for (int n : wrong) {
            WATCH.refused("2 candle(" + n + ")", BoundsOfChamberTest::busy, x -> x.candle(n), BAD, Watch.AS_BAD);
        }
        int[] right = {1, 2, 19, 20};
        for (int n : right) {
            WATCH.done("2 candle(" + n + ")", BoundsOfChamberTest::busy, x -> x.candle(n), 6, n, 0, 4 * n, 0, 0, 0, 0, 0, 0);
            CandleHouse x = new CandleHouse();
            x.candle(n);
            DUE.is("2 the last SLICE of " + n, x.thick(n - 1, 9), 4);
            DUE.is("2 behind the last SLICE of " + n, x.thick(n, 9), BAD);
            DUE.is("2 what n was", x.candle(7), n);
        }
    }

    /** "all as at first": SLICES that come back are as at first, too. */
    private static void allAsAtFirst() {
        CandleHouse x = new CandleHouse();
        x.candle(20);
        for (int i = 0; i < 20; i++) {
            x.thick(i, 9);
        }
        x.candle(3);
        DUE.is("2 three", x.count(2), 12);
        x.candle(20);
        DUE.is("2 twenty", x.count(2), 80);
        for (int i = 0; i < 20; i++) {
            DUE.is("2 THICK of " + i, x.thick(i, 4), 4);
        }
    }

    /** "nothing else told": but IMAGES, THE TEXT and STATUS are no part of it. */
    private static void nothingElseTold() {
        CandleHouse x = busy();
        int bytes = x.count(9);
        x.candle(99);
        x.undo();
        x.candle(6);
        WATCH.counts("2 told anew", x, 6, 0, 24, 0, 0, 0, 0, 0, 0, bytes);
        DUE.is("2 none may be undone", x.undo(), NO);
        DUE.is("2 nobody has the house", x.house(0), NONE);
        DUE.is("2 no DOOR is open", x.burns(0), 1);
        WATCH.same("2 status", Watch.statuses(x), new long[] {1, 1, 0});
        x.pin(0, 0);
        DUE.is("2 it was not told", x.lean(0, NONE), NONE);
        DUE.is("2 MINUTE 0 is to come", x.falls(0), 0);
        DUE.is("2 the IMAGE is kept", x.from(1), 1);
        DUE.is("2 the IMAGE as it was", x.lean(0, NONE), 44);
    }

    /** "so THICK (1 .. 9 drops of wax)". */
    private static void thickFromOneToNine() {
        int[] wrong = {-1, 0, 10, 11};
        for (int k : wrong) {
            WATCH.refused("3 thick(4, " + k + ")", BoundsOfChamberTest::busy, x -> x.thick(4, k), BAD, Watch.AS_BAD);
        }
        int[] right = {1, 2, 8, 9};
        for (int k : right) {
            WATCH.done("3 thick(4, " + k + ")", BoundsOfChamberTest::busy, x -> x.thick(4, k), 4, 6, 12, 25 + k, 2, 2);
        }
        CandleHouse x = new CandleHouse();
        x.thick(9, 9);
        DUE.is("3 as it is already", x.thick(9, 9), 9);
        DUE.is("3 all wax", x.count(2), 45);
    }

    /** "SLICES 0 to n less 1". */
    private static void thickOfASliceThereIs() {
        for (int slice = 0; slice < 4; slice++) {
            int s = slice;
            int[] was = {2, 3, 1, 4};
            WATCH.done("3 thick " + s, () -> Watch.told(LAYERS), x -> x.thick(s, 9), was[s], 4, 0, 19 - was[s]);
        }
        WATCH.refused("3 SLICE -1", () -> Watch.told(LAYERS), x -> x.thick(-1, 9), BAD, Watch.AS_BAD);
        WATCH.refused("3 SLICE 4", () -> Watch.told(LAYERS), x -> x.thick(4, 9), BAD, Watch.AS_BAD);
        WATCH.refused("3 SLICE 20", () -> Watch.told("candle 20;"), x -> x.thick(20, 9), BAD, Watch.AS_BAD);
    }

    /** "NO: some of its wax is BURNT": the first drop of it, no sooner. LAYERS begin at 0, 2, 5, 6 and end at 10. */
    private static void thickWhileNoneOfItIsBurnt() {
        int[] begin = {0, 2, 5, 6};
        int[] was = {2, 3, 1, 4};
        for (int burnt = 0; burnt <= 12; burnt++) {
            int b = burnt;
            for (int slice = 0; slice < 4; slice++) {
                int s = slice;
                String what = "3 BURNT " + b + ", SLICE " + s;
                if (b > begin[s]) {
                    WATCH.refused(what, () -> Watch.told(LAYERS, b), x -> x.thick(s, 9), NO, Watch.AS_NO);
                    WATCH.refused(what + ", as it is", () -> Watch.told(LAYERS, b), x -> x.thick(s, was[s]), NO, Watch.AS_NO);
                    WATCH.refused(what + ", BAD", () -> Watch.told(LAYERS, b), x -> x.thick(s, 0), BAD, Watch.AS_BAD);
                    WATCH.refused(what + ", BAD", () -> Watch.told(LAYERS, b), x -> x.thick(s, 10), BAD, Watch.AS_BAD);
                } else {
                    WATCH.done(what, () -> Watch.told(LAYERS, b), x -> x.thick(s, 9), was[s], 4, b, 19 - was[s], b);
                }
            }
        }
    }

    /** Its wax is no more BURNT, when the MINUTE is undone. */
    private static void thickBehindUndo() {
        CandleHouse x = Watch.told(LAYERS, 3);
        DUE.is("3 one drop of it", x.thick(1, 9), NO);
        x.undo();
        DUE.is("3 no drop of it", x.thick(1, 9), 3);
        DUE.is("3 one drop of SLICE 0 is left", x.undo(), 1);
        DUE.is("3 some of SLICE 0", x.thick(0, 1), NO);
        x.undo();
        DUE.is("3 none of SLICE 0", x.thick(0, 1), 2);
        WATCH.counts("3 all wax", x, 4, 0, 1 + 9 + 1 + 4, 0);
    }

    private static CandleHouse withDoors(int doors) {
        CandleHouse x = new CandleHouse();
        for (int i = 0; i < doors; i++) {
            x.door(3);
        }
        return x;
    }

    /** "DOORS 0 .. 4, as they come", "FULL: 5". */
    private static void doorsFive() {
        for (int doors = 0; doors < 5; doors++) {
            int d = doors;
            WATCH.done("4 a DOOR behind " + d, () -> withDoors(d), x -> x.door(1), d, 10, 0, 40, 0, d + 1);
            WATCH.refused("4 BAD behind " + d, () -> withDoors(d), x -> x.door(4), BAD, Watch.AS_BAD);
        }
        WATCH.refused("4 a sixth", () -> withDoors(5), x -> x.door(0), FULL, Watch.AS_FULL);
        WATCH.refused("4 a sixth", () -> withDoors(5), x -> x.door(3), FULL, Watch.AS_FULL);
        WATCH.refused("4 BAD goes ahead of FULL", () -> withDoors(5), x -> x.door(4), BAD, Watch.AS_BAD);
        WATCH.refused("4 BAD goes ahead of FULL", () -> withDoors(5), x -> x.door(-1), BAD, Watch.AS_BAD);
        CandleHouse x = withDoors(5);
        x.candle(1);
        DUE.is("4 room again", x.door(0), 0);
    }

    /** "a DRAUGHT (0 .. 3), shut at first". */
    private static void draughts() {
        for (int draught = 0; draught <= 3; draught++) {
            CandleHouse x = new CandleHouse();
            DUE.is("4 door(" + draught + ")", x.door(draught), 0);
            DUE.is("4 shut at first", x.burns(0), 1);
            DUE.is("4 it is shut", x.open(0, false), NO);
            x.open(0, true);
            DUE.is("4 open", x.burns(0), 1 + draught);
        }
        WATCH.refused("4 door(-1)", BoundsOfChamberTest::busy, x -> x.door(-1), BAD, Watch.AS_BAD);
        WATCH.refused("4 door(4)", BoundsOfChamberTest::busy, x -> x.door(4), BAD, Watch.AS_BAD);
        CandleHouse x = withDoors(5);
        for (int i = 0; i < 5; i++) {
            DUE.is("5 open all", x.open(i, true), 1);
            DUE.is("5 all together", x.burns(299), 4 + 3 * i);
        }
    }

    /** "A DOOR is open from now on, or shut: 1. BAD; NO: it is so." */
    private static void doorsOpenOrShut() {
        Watch.Making shut = () -> withDoors(3);
        Watch.Making open = () -> {
            CandleHouse x = withDoors(3);
            x.open(2, true);
            return x;
        };
        WATCH.done("5 a shut one opens", shut, x -> x.open(2, true), 1, 10, 0, 40, 0, 3);
        WATCH.done("5 an open one shuts", open, x -> x.open(2, false), 1, 10, 0, 40, 0, 3);
        WATCH.refused("5 it is shut", shut, x -> x.open(2, false), NO, Watch.AS_NO);
        WATCH.refused("5 it is open", open, x -> x.open(2, true), NO, Watch.AS_NO);
        WATCH.refused("5 another is shut", open, x -> x.open(1, false), NO, Watch.AS_NO);
        int[] wrong = {-1, 3, 4, 5, 31, 32, 34};
        for (int door : wrong) {
            WATCH.refused("5 open " + door, open, x -> x.open(door, true), BAD, Watch.AS_BAD);
            WATCH.refused("5 shut " + door, open, x -> x.open(door, false), BAD, Watch.AS_BAD);
        }
        CandleHouse x = withDoors(1);
        x.open(0, true);
        DUE.is("5 from now on", x.minute(2), 8);
        x.open(0, false);
        DUE.is("5 not any more", x.minute(2), 10);
    }

    private static CandleHouse withPins(int pins) {
        CandleHouse x = new CandleHouse();
        for (int i = 0; i < pins; i++) {
            x.pin(i % 3, i);
        }
        return x;
    }

    /** "PINS 0 .. 8, as they come", "FULL: 9". */
    private static void pinsNine() {
        for (int pins = 0; pins < 9; pins++) {
            int p = pins;
            WATCH.done("6 a PIN behind " + p, () -> withPins(p), x -> x.pin(2, 9), p, 10, 0, 40, 0, 0, p + 1);
        }
        WATCH.refused("6 a tenth", () -> withPins(9), x -> x.pin(0, 9), FULL, Watch.AS_FULL);
        WATCH.refused("6 a tenth in SLICE 0", () -> withPins(9), x -> x.pin(2, 0), FULL, Watch.AS_FULL);
        WATCH.done("6 one goes", () -> withPins(9), x -> x.drop(0), 8, 10, 0, 40, 0, 0, 8);
        CandleHouse x = withPins(9);
        x.drop(0);
        DUE.is("6 room again", x.pin(1, 1), 8);
        DUE.is("6 full again", x.pin(1, 1), FULL);
        x.minute(20);
        DUE.is("6 those that fell are there yet", x.pin(1, 9), FULL);
    }

    /** "a SLICE (two may be in one)". */
    private static void pinsTwoInOne() {
        CandleHouse x = new CandleHouse();
        for (int i = 0; i < 9; i++) {
            DUE.is("6 all in one", x.pin(i % 3, 3), i);
        }
        for (int i = 0; i < 9; i++) {
            DUE.is("18 all in one MINUTE", x.falls(i), 11);
        }
        for (int party = 0; party < 3; party++) {
            int p = party;
            WATCH.done("6 PARTY " + p + ", the first SLICE", CandleHouse::new, y -> y.pin(p, 0), 0, 10, 0, 40, 0, 0, 1);
            WATCH.done("6 PARTY " + p + ", the last SLICE", CandleHouse::new, y -> y.pin(p, 9), 0, 10, 0, 40, 0, 0, 1);
            WATCH.refused("6 PARTY " + p + ", SLICE 10", CandleHouse::new, y -> y.pin(p, 10), BAD, Watch.AS_BAD);
            WATCH.refused("6 PARTY " + p + ", SLICE -1", CandleHouse::new, y -> y.pin(p, -1), BAD, Watch.AS_BAD);
        }
        WATCH.refused("6 PARTY 3", CandleHouse::new, y -> y.pin(3, 0), BAD, Watch.AS_BAD);
        WATCH.refused("6 PARTY -1", CandleHouse::new, y -> y.pin(-1, 0), BAD, Watch.AS_BAD);
    }

    /** "NO: it would have fallen already": LAYERS begin at 0 (but MINUTE 0 goes ahead), 2, 5, 6. */
    private static void pinsNotFallenAlready() {
        int[] begin = {1, 2, 5, 6};
        for (int burnt = 0; burnt <= 12; burnt++) {
            int b = burnt;
            int gone = Math.min(b, 10);
            for (int slice = 0; slice < 4; slice++) {
                int s = slice;
                String what = "6 BURNT " + b + ", SLICE " + s;
                if (b >= begin[s]) {
                    WATCH.refused(what, () -> Watch.told(LAYERS, b), x -> x.pin(1, s), NO, Watch.AS_NO);
                } else {
                    WATCH.done(what, () -> Watch.told(LAYERS, b), x -> x.pin(1, s), 0, 4, gone, 10, b, 0, 1);
                }
            }
        }
        CandleHouse x = Watch.told(LAYERS, 1);
        DUE.is("6 SLICE 0 behind MINUTE 0", x.pin(0, 0), NO);
        x.undo();
        DUE.is("6 SLICE 0 in MINUTE 0 again", x.pin(0, 0), 0);
    }

    /** "the first of: BAD .. NO .. FULL". */
    private static void pinsRefusedInOrder() {
        Watch.Making full = () -> {
            CandleHouse x = withPins(9);
            x.minute(4);
            return x;
        };
        WATCH.refused("6 FULL alone", full, x -> x.pin(0, 2), FULL, Watch.AS_FULL);
        WATCH.refused("6 NO goes ahead of FULL", full, x -> x.pin(0, 1), NO, Watch.AS_NO);
        WATCH.refused("6 BAD goes ahead of NO", full, x -> x.pin(3, 1), BAD, Watch.AS_BAD);
        WATCH.refused("6 BAD goes ahead of FULL", full, x -> x.pin(-1, 2), BAD, Watch.AS_BAD);
        WATCH.refused("6 BAD goes ahead of FULL", full, x -> x.pin(0, 10), BAD, Watch.AS_BAD);
    }

    private static CandleHouse withMembers(int members) {
        CandleHouse x = new CandleHouse();
        for (int i = 0; i < members; i++) {
            x.member(i, i % 3, i, 99 - i);
        }
        return x;
    }

    /** "MEMBERS 0 .. 5, as they come", "FULL: 6". */
    private static void membersSix() {
        for (int members = 0; members < 6; members++) {
            int m = members;
            WATCH.done("7 a MEMBER behind " + m, () -> withMembers(m), x -> x.member(5, 2, 0, 99), m, 10, 0, 40, 0, 0, 0, m + 1);
        }
        WATCH.refused("7 a seventh", () -> withMembers(6), x -> x.member(0, 0, 0, 0), FULL, Watch.AS_FULL);
        WATCH.refused("7 a seventh", () -> withMembers(6), x -> x.member(5, 2, 99, 99), FULL, Watch.AS_FULL);
        WATCH.refused("7 BAD goes ahead of FULL", () -> withMembers(6), x -> x.member(6, 0, 0, 0), BAD, Watch.AS_BAD);
        WATCH.refused("7 BAD goes ahead of FULL", () -> withMembers(6), x -> x.member(0, 0, 0, 100), BAD, Watch.AS_BAD);
        CandleHouse x = withMembers(6);
        x.drop(1);
        DUE.is("7 room again", x.member(0, 0, 0, 0), 5);
        DUE.is("7 full again", x.member(0, 0, 0, 0), FULL);
    }

    /** "a KIND, a PARTY (0 .. 2), IN from a MINUTE on (0 .. 99) till one (0 .. 99)". */
    private static void membersFromTill() {
        int[][] right = {{0, 0, 0, 0}, {5, 2, 99, 99}, {0, 2, 99, 0}, {5, 0, 0, 99}, {1, 1, 1, 98}, {4, 1, 98, 1}};
        for (int[] r : right) {
            WATCH.done("7 member", BoundsOfChamberTest::busy, x -> x.member(r[0], r[1], r[2], r[3]), 2, 6, 12, 29, 2, 2, 2, 3);
        }
        int[][] wrong = {{-1, 0, 0, 0}, {6, 0, 0, 0}, {0, -1, 0, 0}, {0, 3, 0, 0}, {0, 0, -1, 0}, {0, 0, 100, 0}, {0, 0, 0, -1},
            {0, 0, 0, 100}};
        for (int[] w : wrong) {
            WATCH.refused("7 member", BoundsOfChamberTest::busy, x -> x.member(w[0], w[1], w[2], w[3]), BAD, Watch.AS_BAD);
        }
    }

    /** "The last PIN (0), MEMBER (1) goes: how many are left. BAD; NO: none." */
    private static void dropTheLast() {
        for (int left = 0; left < 9; left++) {
            int l = left;
            WATCH.done("8 the last PIN of " + (l + 1), () -> withPins(l + 1), x -> x.drop(0), l, 10, 0, 40, 0, 0, l, 0);
            WATCH.refused("8 no MEMBER", () -> withPins(l), x -> x.drop(1), NO, Watch.AS_NO);
        }
        for (int left = 0; left < 6; left++) {
            int l = left;
            WATCH.done("8 the last MEMBER of " + (l + 1), () -> withMembers(l + 1), x -> x.drop(1), l, 10, 0, 40, 0, 0, 0, l);
            WATCH.refused("8 no PIN", () -> withMembers(l), x -> x.drop(0), NO, Watch.AS_NO);
        }
        WATCH.refused("8 drop(-1)", BoundsOfChamberTest::busy, x -> x.drop(-1), BAD, Watch.AS_BAD);
        WATCH.refused("8 drop(2)", BoundsOfChamberTest::busy, x -> x.drop(2), BAD, Watch.AS_BAD);
        CandleHouse x = withPins(2);
        x.minute(20);
        DUE.is("8 one that fell goes, too", x.drop(0), 1);
        DUE.is("8 it is not there any more", x.fallen(1), BAD);
    }
}
