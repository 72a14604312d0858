/** Runs by hand that use an object to its 512th call: what is kept, counted or undone holds to the last one. */
public final class LastCallsTest {
    private static final int NONE = CandleHouse.NONE, BAD = CandleHouse.BAD, NO = CandleHouse.NO, FULL = CandleHouse.FULL;
    private static final int MOST_CALLS = 512;
    private static final Due DUE = new Due("LastCallsTest");

    private final String run;
    private final CandleHouse house = new CandleHouse();
    private int calls = 0;

    private LastCallsTest(String run) {
        this.run = run;
    }

    public static void main(String[] args) {
        candleAnewAndAnew();
        thickToAndFro();
        doorsToAndFro();
        pinsComeAndGo();
        membersComeAndGo();
        textFullAndEmpty();
        readAtLast();
        readAndRead();
        tenThousandMinutes();
        minutesOneByOne();
        minutesUndoneAndDone();
        questionsChangeNothing();
        refusedAsBad();
        refusedAsNo();
        refusedAsFull();
        imageFromTheFirstCall();
        imagesByTurns();
        digestAtLast();
        DUE.end();
    }

    private CandleHouse x() {
        calls++;
        return house;
    }

    private void due(String call, long got, long want) {
        DUE.is(run + ", call " + calls + ": " + call, got, want);
    }

    private void end() {
        DUE.is(run + ": calls", calls, MOST_CALLS);
    }

    private boolean more(int leaving) {
        return calls < MOST_CALLS - leaving;
    }

    private void type(String text) {
        for (char c : text.toCharArray()) {
            x().type(c);
        }
    }

    private static void candleAnewAndAnew() {
        LastCallsTest t = new LastCallsTest("candle");
        int was = 10;
        for (int i = 0; t.more(2); i++) {
            int n = 1 + i % 20;
            t.due("candle(" + n + ")", t.x().candle(n), was);
            was = n;
        }
        t.due("count(0)", t.x().count(0), was);
        t.due("count(2)", t.x().count(2), 4 * was);
        t.end();
    }

    private static void thickToAndFro() {
        LastCallsTest t = new LastCallsTest("thick");
        t.due("minute(6)", t.x().minute(6), 6);
        int was = 4;
        for (int i = 0; t.more(4); i++) {
            int k = 1 + i % 9;
            t.due("thick(2, " + k + ")", t.x().thick(2, k), was);
            was = k;
        }
        t.due("thick(1, 5)", t.x().thick(1, 5), NO);
        t.due("count(2)", t.x().count(2), 36 + was);
        t.due("thick(2, 9)", t.x().thick(2, 9), was);
        t.due("count(2)", t.x().count(2), 45);
        t.end();
    }

    private static void doorsToAndFro() {
        LastCallsTest t = new LastCallsTest("open");
        t.due("door(3)", t.x().door(3), 0);
        while (t.more(3)) {
            t.due("open(0, true)", t.x().open(0, true), 1);
            t.due("open(0, true)", t.x().open(0, true), NO);
            t.due("burns(299)", t.x().burns(299), 4);
            t.due("open(0, false)", t.x().open(0, false), 1);
        }
        t.due("burns(0)", t.x().burns(0), 1);
        t.due("open(0, false)", t.x().open(0, false), NO);
        t.due("status(1)", t.x().status(1), 128);
        t.end();
    }

    /** The last PIN goes, and the next has its number, with nothing told of it. */
    private static void pinsComeAndGo() {
        LastCallsTest t = new LastCallsTest("pin");
        for (int i = 0; i < 8; i++) {
            t.due("pin", t.x().pin(0, i), i);
        }
        for (int i = 0; t.more(4); i++) {
            t.due("pin", t.x().pin(i % 3, i % 10), 8);
            t.due("pin", t.x().pin(0, 0), FULL);
            t.due("lean", t.x().lean(8, i), NONE);
            t.due("falls", t.x().falls(8), i % 10 == 0 ? 0 : 4 * (i % 10) - 1);
            t.due("drop", t.x().drop(0), 8);
        }
        t.due("pin", t.x().pin(2, 9), 8);
        t.due("lean", t.x().lean(8, 299), NONE);
        t.due("lean", t.x().lean(8, NONE), 299);
        t.due("lean", t.x().lean(8, NONE), NONE);
        t.end();
    }

    private static void membersComeAndGo() {
        LastCallsTest t = new LastCallsTest("member");
        for (int i = 0; i < 5; i++) {
            t.due("member", t.x().member(0, 0, 0, 99), i);
        }
        for (int i = 0; t.more(2); i++) {
            t.due("member", t.x().member(i % 6, 1, 0, 99), 5);
            t.due("member", t.x().member(0, 0, 0, 0), FULL);
            t.due("votes", t.x().votes(1, 1), new int[] {1, 0, 1, 2, 0, 3}[i % 6]);
            t.due("burns", t.x().burns(1), new int[] {1, 1, 2, 1, 2, 3}[i % 6]);
            t.due("drop", t.x().drop(1), 5);
        }
        t.due("votes", t.x().votes(0, 98), 5);
        t.due("votes", t.x().votes(1, 98), 0);
        t.end();
    }

    private static void textFullAndEmpty() {
        LastCallsTest t = new LastCallsTest("type");
        for (int round = 0; round < 3; round++) {
            for (int i = 1; i <= 150; i++) {
                t.due("type", t.x().type(round), i);
            }
            t.due("type", t.x().type(127), FULL);
            t.due("read", t.x().read(), -10);
            t.due("clear", t.x().clear(), 150);
            t.due("clear", t.x().clear(), 0);
        }
        for (int i = 1; t.more(1); i++) {
            t.due("type", t.x().type(';'), i);
        }
        t.due("count(9)", t.x().count(9), 49);
        t.end();
    }

    /** The text is at its longest, and read by the last call but one. */
    private static void readAtLast() {
        LastCallsTest t = new LastCallsTest("read at last");
        while (t.more(152)) {
            t.due("minute", t.x().minute(20) < 1 ? 1 : 0, 0);
        }
        String items = "candle 2;door 1;open 0;pin 2 1;member 5 2 0 99;";
        t.type(items + " ".repeat(149 - items.length() - 9) + "thick 1 9;");
        t.due("read", t.x().read(), 6);
        long h = 877;
        int[] values = {2, 0, 13, 0, 1, 1, 1, 0, 0, 150, 4, 9, 1, 1, 2, 1, NONE, 5, 2, 0, 99};
        for (int v : values) {
            h = 31 * h + v;
        }
        t.due("digest", t.x().digest(), h);
        t.end();
    }

    /** One text tells the same house each time, whatever was in between. */
    private static void readAndRead() {
        LastCallsTest t = new LastCallsTest("read and read");
        t.type("candle 1; door 3; open 0; pin 0 0;");
        while (t.more(4)) {
            t.due("read", t.x().read(), 4);
            t.due("undo", t.x().undo(), NO);
            t.due("fallen", t.x().fallen(0), 0);
            t.due("minute", t.x().minute(1), 4);
            t.due("fallen", t.x().fallen(0), 1);
            t.due("pin", t.x().pin(0, 0), NO);
        }
        t.due("read", t.x().read(), 4);
        t.due("count(3)", t.x().count(3), 0);
        t.due("count(9)", t.x().count(9), 34);
        t.due("status(1)", t.x().status(1), 158);
        t.end();
    }

    private static void tenThousandMinutes() {
        LastCallsTest t = new LastCallsTest("ten thousand minutes");
        t.due("pin", t.x().pin(1, 9), 0);
        t.due("member", t.x().member(5, 1, 0, 99), 0);
        for (int i = 1; i <= 490; i++) {
            t.due("minute(20)", t.x().minute(20), 40);
        }
        t.due("count(3)", t.x().count(3), 9800);
        t.due("out", t.x().out(), NONE);
        t.due("falls", t.x().falls(0), NONE);
        t.due("quorum", t.x().quorum(1, 60, 1), NONE);
        t.due("moths", t.x().moths(60, 0, 1), 40);
        t.due("race", t.x().race(1, 9), 0);
        for (int i = 11; i >= 0; i--) {
            t.due("undo", t.x().undo(), 1);
        }
        t.due("undo", t.x().undo(), NO);
        t.due("count(3)", t.x().count(3), 9788);
        t.end();
    }

    /** Each MINUTE is told ahead, comes, and is as it was told. */
    private static void minutesOneByOne() {
        LastCallsTest t = new LastCallsTest("minutes one by one");
        t.due("candle", t.x().candle(20), 10);
        t.due("pin", t.x().pin(0, 19), 0);
        for (int i = 0; i < 76; i++) {
            t.due("fallen", t.x().fallen(0), 0);
            t.due("falls", t.x().falls(0), 75);
            t.due("reads", t.x().reads(9999, 10, 0), 10 * (76 - i));
            t.due("minute", t.x().minute(1), i + 1);
        }
        t.due("fallen", t.x().fallen(0), 1);
        while (t.more(1)) {
            t.due("falls", t.x().falls(0), NONE);
        }
        t.due("out", t.x().out(), 79);
        t.end();
    }

    private static void minutesUndoneAndDone() {
        LastCallsTest t = new LastCallsTest("undo");
        t.due("door", t.x().door(3), 0);
        t.due("door", t.x().door(3), 1);
        t.due("open", t.x().open(0, true), 1);
        t.due("open", t.x().open(1, true), 1);
        while (t.more(7)) {
            t.due("minute", t.x().minute(2), 14);
            t.due("undo", t.x().undo(), 1);
            t.due("count(7)", t.x().count(7), 2);
            t.due("undo", t.x().undo(), 1);
            t.due("undo", t.x().undo(), NO);
            t.due("count(7)", t.x().count(7), 0);
        }
        while (t.more(1)) {
            t.due("count(3)", t.x().count(3), 0);
        }
        t.due("minute", t.x().minute(20), 40);
        t.end();
    }

    private static CandleHouse furnished(CandleHouse x) {
        x.door(2);
        x.door(3);
        x.open(1, true);
        x.pin(0, 5);
        x.pin(1, 7);
        x.member(5, 1, 2, 40);
        x.member(4, 0, 0, 99);
        x.lean(0, 4);
        x.minute(2);
        return x;
    }

    private static void questionsChangeNothing() {
        LastCallsTest t = new LastCallsTest("questions");
        furnished(t.house);
        t.calls += 9;
        long digest = t.x().digest();
        int[] first = t.questions();
        while (t.more(27)) {
            int[] again = t.questions();
            for (int i = 0; i < first.length; i++) {
                t.due("question " + i, again[i], first[i]);
            }
        }
        for (int i = 0; i < 3; i++) {
            t.due("status", t.x().status(i), 0);
        }
        while (t.more(1)) {
            t.due("out", t.x().out(), first[5]);
        }
        t.due("digest", t.x().digest(), digest);
        t.end();
    }

    private int[] questions() {
        return new int[] {x().house(7), x().votes(1, 7), x().burns(7), x().fallen(1), x().falls(1), x().out(), x().whose(1),
            x().reads(500, 9, 1), x().set(1, 2, 1), x().shut(1, 5), x().leaned(0), x().leaned(1), x().quorum(3, 60, 0),
            x().tallow(1, 0), x().tallow(1, 1), x().race(4, 3), x().game(0, 0, 1, 1, 0), x().moths(9, 50, 77), x().loan(0),
            x().loan(1), x().count(1), x().count(7), x().count(8)};
    }

    private static void refusedAsBad() {
        LastCallsTest t = new LastCallsTest("BAD");
        for (int i = 0; t.more(3); i++) {
            t.due("minute", t.x().minute(i % 2 == 0 ? 0 : 21), BAD);
        }
        t.due("status(0)", t.x().status(0), 509);
        t.due("status(3)", t.x().status(3), -1);
        t.due("status(0)", t.x().status(0), 510);
        t.end();
    }

    private static void refusedAsNo() {
        LastCallsTest t = new LastCallsTest("NO");
        while (t.more(2)) {
            t.due("undo", t.x().undo(), NO);
        }
        t.due("status(1)", t.x().status(1), 510);
        t.due("status(0)", t.x().status(0), 0);
        t.end();
    }

    private static void refusedAsFull() {
        LastCallsTest t = new LastCallsTest("FULL");
        for (int i = 0; t.more(1); i++) {
            t.due("door", t.x().door(i % 4), i < 5 ? i : FULL);
        }
        t.due("status(2)", t.x().status(2), 506);
        t.end();
    }

    /** An IMAGE of the first calls, from which the last call but one goes on. */
    private static void imageFromTheFirstCall() {
        long digest = furnished(new CandleHouse()).digest();
        LastCallsTest t = new LastCallsTest("image");
        furnished(t.house);
        t.calls += 9;
        t.due("image", t.x().image(1), 1);
        for (int i = 0; t.more(8); i++) {
            t.due("candle", t.x().candle(1 + i % 20), i == 0 ? 10 : 1 + (i + 19) % 20);
            t.x().door(3);
            t.x().open(0, true);
            t.x().minute(20);
            t.due("image", t.x().image(0), 1);
        }
        while (t.more(2)) {
            t.due("from", t.x().from(2), BAD);
        }
        t.due("from", t.x().from(1), 1);
        t.due("digest", t.x().digest(), digest);
        t.end();
    }

    /** IMAGE 0 has one MINUTE that may be undone, IMAGE 1 twelve; going on from them spends neither. */
    private static void imagesByTurns() {
        LastCallsTest t = new LastCallsTest("images by turns");
        t.x().minute(1);
        t.x().image(0);
        t.x().minute(20);
        t.x().image(1);
        while (t.more(8)) {
            t.due("from(0)", t.x().from(0), 1);
            t.due("undo", t.x().undo(), 1);
            t.due("undo", t.x().undo(), NO);
            t.due("from(1)", t.x().from(1), 1);
            t.due("count(8)", t.x().count(8), 12);
            t.due("undo", t.x().undo(), 1);
            t.due("count(1)", t.x().count(1), 20);
            t.due("undo", t.x().undo(), 1);
            t.due("count(3)", t.x().count(3), 19);
        }
        while (t.more(1)) {
            t.due("from(1)", t.x().from(1), 1);
        }
        t.due("count(3)", t.x().count(3), 21);
        t.end();
    }

    /** Some 500 times asked, it is as on an object that was never asked. */
    private static void digestAtLast() {
        LastCallsTest t = new LastCallsTest("digest");
        long digest = furnished(new CandleHouse()).digest();
        furnished(t.house);
        t.calls += 9;
        while (t.more(1)) {
            t.due("digest", t.x().digest(), digest);
        }
        t.due("digest", t.x().digest(), digest);
        t.end();
    }
}
