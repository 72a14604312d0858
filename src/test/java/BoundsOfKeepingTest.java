import java.math.BigInteger;

/** Promises 32 to 36, "what there is": each sentence that names a bound, at the bound and on either side of it. */
public final class BoundsOfKeepingTest {
    private static final int BAD = CandleHouse.BAD, NO = CandleHouse.NO;
    private static final int NO_STATUS = -1;
    private static final Due DUE = new Due("BoundsOfKeepingTest");
    private static final Watch WATCH = new Watch(DUE);

    public static void main(String[] args) {
        imagesTwo();
        imagesNotKept();
        imagesKeepWhatMayBeUndone();
        imagesKeepAllButThese();
        imagesOfOtherCandles();
        statusByReason();
        statusOfOtherWhat();
        statusOfWhatIsNotRefused();
        countsFromTheLeastToTheMost();
        digestOfTheLeast();
        digestOfTheMostWrapsAround();
        digestOfEachNumber();
        DUE.end();
    }

    /** 5 DOORS, 9 PINS, 6 MEMBERS, 150 bytes, 20 SLICES of 9; 5 and more drops a MINUTE. */
    private static CandleHouse full() {
        CandleHouse x = Watch.tall();
        for (int i = 0; i < 5; i++) {
            x.door(i % 4);
        }
        x.open(1, true);
        x.open(3, true);
        for (int i = 0; i < 9; i++) {
            x.pin(i % 3, 2 * i);
            x.lean(i, i == 8 ? 299 : i - 1);
        }
        for (int i = 0; i < 6; i++) {
            x.member(i, i % 3, i, 99);
        }
        Watch.type(x, "candle 2;" + " ".repeat(141));
        return x;
    }

    /** "IMAGES 0, 1", "An IMAGE is kept: 1. BAD." */
    private static void imagesTwo() {
        int[] wrong = {-2, -1, 2, 3};
        for (int i : wrong) {
            WATCH.refused("32 image(" + i + ")", BoundsOfKeepingTest::full, x -> x.image(i), BAD, Watch.AS_BAD);
            WATCH.refused("33 from(" + i + ")", BoundsOfKeepingTest::full, x -> x.from(i), BAD, Watch.AS_BAD);
        }
        for (int image = 0; image < 2; image++) {
            int i = image;
            CandleHouse x = full();
            long[] seen = Watch.seen(x);
            DUE.is("32 image(" + i + ")", x.image(i), 1);
            WATCH.same("32 nothing else changes", Watch.seen(x), seen);
            DUE.is("33 from(" + i + ")", x.from(i), 1);
            WATCH.same("33 it is as it was", Watch.seen(x), seen);
            WATCH.same("33 status", Watch.statuses(x), new long[3]);
        }
    }

    private static CandleHouse withImage(int i) {
        CandleHouse x = full();
        x.image(i);
        x.minute(3);
        return x;
    }

    /** "NO: none was kept": neither, the other one, this one. */
    private static void imagesNotKept() {
        for (int image = 0; image < 2; image++) {
            int i = image;
            WATCH.refused("33 neither is kept", BoundsOfKeepingTest::full, x -> x.from(i), NO, Watch.AS_NO);
            WATCH.refused("33 the other is kept", () -> withImage(1 - i), x -> x.from(i), NO, Watch.AS_NO);
            WATCH.done("33 it is kept", () -> withImage(i), x -> x.from(i), 1, 20, 0, 180, 0, 5, 9, 6, 0, 0, 150);
            WATCH.refused("33 a BAD one is not kept", () -> withImage(2), x -> x.from(i), NO, Watch.AS_NO);
        }
    }

    /** "MINUTES that may be undone they keep": none, eleven, twelve. */
    private static void imagesKeepWhatMayBeUndone() {
        int[] minutes = {0, 1, 11, 12, 13};
        for (int n : minutes) {
            CandleHouse x = new CandleHouse();
            if (n > 0) {
                x.minute(n);
            }
            x.image(1);
            x.minute(20);
            DUE.is("33 behind " + n, x.from(1), 1);
            int undoable = Math.min(n, 12);
            WATCH.counts("33 behind " + n, x, 10, n, 40, n, 0, 0, 0, 0, undoable);
            for (int left = undoable; left > 0; left--) {
                DUE.is("33 undo", x.undo(), 1);
            }
            WATCH.counts("33 undone", x, 10, n - undoable, 40, n - undoable, 0, 0, 0, 0, 0);
            DUE.is("33 no more", x.undo(), NO);
            DUE.is("33 the IMAGE has them yet", x.from(1), 1);
            DUE.is("33 the IMAGE has them yet", x.count(8), undoable);
        }
        CandleHouse owing = full();
        owing.minute(2);
        owing.image(0);
        owing.candle(1);
        owing.minute(2);
        owing.from(0);
        owing.undo();
        WATCH.counts("33 OWED as ahead of the last MINUTE", owing, 20, 5, 180, 1, 5, 9, 6, 1, 1);
    }

    /** "IMAGES 0, 1 keep all but them, THE TEXT and STATUS". */
    private static void imagesKeepAllButThese() {
        CandleHouse x = full();
        x.image(0);
        long digest = x.digest();
        x.minute(1);
        x.image(1);
        long later = x.digest();
        DUE.is("33 from(0)", x.from(0), 1);
        DUE.is("33 the first", x.digest(), digest);
        DUE.is("33 the other is not undone by it", x.from(1), 1);
        DUE.is("33 the other", x.digest(), later);
        x.clear();
        x.type('c');
        x.status(9);
        x.door(0);
        x.undo();
        x.undo();
        WATCH.same("33 status ahead of it", Watch.statuses(x), new long[] {1, 1, 1});
        x.from(1);
        WATCH.same("33 STATUS stays", Watch.statuses(x), new long[] {1, 1, 1});
        DUE.is("33 THE TEXT stays", x.clear(), 1);
        x.image(0);
        x.candle(1);
        x.from(0);
        DUE.is("32 the later takes the sooner's place", x.count(3), 1);
    }

    /** An IMAGE of more SLICES than there are now, of fewer. */
    private static void imagesOfOtherCandles() {
        CandleHouse x = full();
        x.image(0);
        x.candle(1);
        x.image(1);
        x.from(0);
        WATCH.counts("33 twenty", x, 20, 0, 180, 0, 5, 9, 6);
        DUE.is("33 the last SLICE", x.thick(19, 1), 9);
        x.from(1);
        WATCH.counts("33 one", x, 1, 0, 4, 0, 0, 0, 0);
        DUE.is("33 a SLICE there is not", x.thick(1, 1), BAD);
        DUE.is("33 a DOOR there is not", x.open(0, true), BAD);
        DUE.is("33 a PIN there is not", x.fallen(0), BAD);
        x.from(0);
        DUE.is("33 the last SLICE as it was kept", x.thick(19, 1), 9);
    }

    /** "how many calls were refused as BAD, NO, FULL": none, one, more, each by its reason alone. */
    private static void statusByReason() {
        CandleHouse x = full();
        x.image(0);
        for (int n = 0; n < 20; n++) {
            WATCH.same("34 " + n + " of each", Watch.statuses(x), new long[] {n, n, n});
            if (n % 2 == 0) {
                x.house(300);
                x.undo();
                x.door(0);
            } else {
                x.thick(20, 1);
                x.from(1);
                x.member(0, 0, 0, 0);
            }
        }
    }

    /** "-1: another what (counts as BAD)". */
    private static void statusOfOtherWhat() {
        int[] wrong = {-2, -1, 3, 4};
        for (int what : wrong) {
            WATCH.refused("34 status(" + what + ")", BoundsOfKeepingTest::full, x -> x.status(what), NO_STATUS, Watch.AS_BAD);
        }
        for (int what = 0; what < 3; what++) {
            int w = what;
            WATCH.asked("34 status(" + w + ")", BoundsOfKeepingTest::full, x -> x.status(w), 0);
        }
    }

    /** "(each answer told so below is such a one; ITEMS are none)": neither are NONE, FAULTS and 0. */
    private static void statusOfWhatIsNotRefused() {
        CandleHouse x = Watch.typed("candle 21;");
        x.read();
        x.type('x');
        x.read();
        x.clear();
        x.read();
        x.pin(0, 0);
        x.minute(20);
        x.minute(20);
        x.house(0);
        x.falls(0);
        x.whose(0);
        x.reads(1, 1, 0);
        x.out();
        x.set(0, 1, 0);
        x.tallow(0, 0);
        x.lean(0, 5);
        x.leaned(1);
        x.quorum(1, 1, 1);
        x.loan(0);
        WATCH.same("34 none is refused", Watch.statuses(x), new long[3]);
    }

    /** "How many: 0 .. 9. BAD." */
    private static void countsFromTheLeastToTheMost() {
        int[] wrong = {-2, -1, 10, 11};
        for (int what : wrong) {
            WATCH.refused("35 count(" + what + ")", BoundsOfKeepingTest::full, x -> x.count(what), BAD, Watch.AS_BAD);
        }
        int[] least = {1, 0, 1, 0, 0, 0, 0, 0, 0, 19};
        // OWED: 5 MINUTES drip 1 each; from MINUTE 5 on 9 and 8 drops by turns drip 3 and 2: 8 times both, 3, and 2 of the last 7.
        int[] most = {20, 180, 180, 40, 5, 9, 6, 5 + 8 * 5 + 3 + 2, 12, 150};
        for (int what = 0; what < 10; what++) {
            int w = what;
            WATCH.asked("35 the least " + w, () -> Watch.told("candle 1;thick 0 1;"), x -> x.count(w), least[w]);
            Watch.Making burnt = () -> {
                CandleHouse x = full();
                x.minute(20);
                x.minute(20);
                return x;
            };
            WATCH.asked("35 the most " + w, burnt, x -> x.count(w), most[w]);
        }
    }

    private static long digestOf(long... values) {
        BigInteger h = BigInteger.valueOf(877);
        for (long v : values) {
            h = h.multiply(BigInteger.valueOf(31)).add(BigInteger.valueOf(v));
        }
        return h.longValue();
    }

    /** "h = 877; then h = 31 h + v": of one SLICE and nothing else. */
    private static void digestOfTheLeast() {
        CandleHouse x = new CandleHouse();
        x.candle(1);
        DUE.is("36 one SLICE", x.digest(), digestOf(1, 0, 4, 0, 0, 0, 0, 0, 0, 0, 4));
        x.thick(0, 1);
        DUE.is("36 one drop", x.digest(), digestOf(1, 0, 1, 0, 0, 0, 0, 0, 0, 0, 1));
        x.type(0);
        DUE.is("36 one byte", x.digest(), digestOf(1, 0, 1, 0, 0, 0, 0, 0, 0, 1, 1));
        x.minute(1);
        DUE.is("36 one MINUTE", x.digest(), digestOf(1, 1, 1, 1, 0, 0, 0, 0, 1, 1, 1));
    }

    /** Far more than a long has room for: what is left is as Java's long arithmetic leaves it. */
    private static void digestOfTheMostWrapsAround() {
        long[] values = {20, 0, 180, 0, 5, 9, 6, 0, 0, 150,
            9, 9, 9, 9, 9, 9, 9, 9, 9, 9, 9, 9, 9, 9, 9, 9, 9, 9, 9, 9,
            0, 0, 1, 1, 2, 0, 3, 1, 0, 0,
            0, 0, -1, 1, 2, 0, 2, 4, 1, 0, 6, 2, 1, 8, 3, 2, 10, 4, 0, 12, 5, 1, 14, 6, 2, 16, 299,
            0, 0, 0, 99, 1, 1, 1, 99, 2, 2, 2, 99, 3, 0, 3, 99, 4, 1, 4, 99, 5, 2, 5, 99};
        DUE.is("36 the most of all", full().digest(), digestOf(values));
    }

    /** Each change shows: nothing that counts is left out of it. */
    private static void digestOfEachNumber() {
        long ahead = full().digest();
        Watch.Call[] changes = {x -> x.thick(19, 8), x -> x.open(0, true), x -> x.open(1, false), x -> x.drop(0), x -> x.drop(1),
            x -> x.lean(0, 0), x -> x.lean(8, -1), x -> x.minute(1), x -> x.clear(), x -> x.candle(20), x -> x.read()};
        for (int i = 0; i < changes.length; i++) {
            CandleHouse x = full();
            changes[i].on(x);
            DUE.holds("36 change " + i + " shows", x.digest() != ahead);
        }
        CandleHouse x = full();
        x.minute(1);
        x.undo();
        DUE.is("36 undone", x.digest(), ahead);
    }
}
