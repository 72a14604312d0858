import java.util.ArrayList;
import java.util.Arrays;
import java.util.List;

/**
 * "BAD -2 a number is not as told": each number of each call, at both ends of its span, beside them on either side, and
 * far off, in houses that are new, furnished, full, least and burnt down.
 */
public final class BoundsOfNumbersTest {
    private static final int BAD = CandleHouse.BAD, TEN = -10, NO_STATUS = -1;
    private static final int MAX = Integer.MAX_VALUE, MIN = Integer.MIN_VALUE;
    private static final Due DUE = new Due("BoundsOfNumbersTest");
    private static final Watch WATCH = new Watch(DUE);

    /** From which number to which one is as told; what there are of may differ from house to house. */
    private interface Span {
        int[] in(CandleHouse x);
    }

    private interface Call {
        int on(CandleHouse x, int[] numbers);
    }

    /** What is BAD though each number is within its span. */
    private interface Clash {
        boolean of(CandleHouse x, int[] numbers);
    }

    private record Row(String name, int refusal, Call call, Clash clash, Span... spans) {
    }

    private static final Span PARTY = span(0, 2), MINUTE = span(0, 299), ONE_OF_TWO = span(0, 1);
    private static final Span SLICE = x -> new int[] {0, x.count(0) - 1};
    private static final Span DOOR = x -> new int[] {0, x.count(4) - 1};
    private static final Span PIN = x -> new int[] {0, x.count(5) - 1};

    public static void main(String[] args) {
        List<Watch.Making> houses = houses();
        for (Row row : rows()) {
            for (int i = 0; i < houses.size(); i++) {
                tryAll(row, "house " + i, houses.get(i));
            }
        }
        DUE.end();
    }

    private static Span span(int least, int most) {
        return x -> new int[] {least, most};
    }

    private static Row row(String name, int refusal, Call call, Span... spans) {
        return new Row(name, refusal, call, (x, n) -> false, spans);
    }

    private static List<Row> rows() {
        List<Row> rows = new ArrayList<>();
        rows.add(row("2 candle", BAD, (x, n) -> x.candle(n[0]), span(1, 20)));
        rows.add(row("3 thick", BAD, (x, n) -> x.thick(n[0], n[1]), SLICE, span(1, 9)));
        rows.add(row("4 door", BAD, (x, n) -> x.door(n[0]), span(0, 3)));
        rows.add(row("5 open", BAD, (x, n) -> x.open(n[0], true), DOOR));
        rows.add(row("5 shut", BAD, (x, n) -> x.open(n[0], false), DOOR));
        rows.add(row("6 pin", BAD, (x, n) -> x.pin(n[0], n[1]), PARTY, SLICE));
        rows.add(row("7 member", BAD, (x, n) -> x.member(n[0], n[1], n[2], n[3]), span(0, 5), PARTY, span(0, 99), span(0, 99)));
        rows.add(row("8 drop", BAD, (x, n) -> x.drop(n[0]), ONE_OF_TWO));
        rows.add(row("9 type", BAD, (x, n) -> x.type(n[0]), span(0, 127)));
        rows.add(row("12 minute", BAD, (x, n) -> x.minute(n[0]), span(1, 20)));
        rows.add(row("14 house", TEN, (x, n) -> x.house(n[0]), MINUTE));
        rows.add(row("15 votes", BAD, (x, n) -> x.votes(n[0], n[1]), PARTY, MINUTE));
        rows.add(row("16 burns", BAD, (x, n) -> x.burns(n[0]), MINUTE));
        rows.add(row("17 fallen", BAD, (x, n) -> x.fallen(n[0]), PIN));
        rows.add(row("18 falls", TEN, (x, n) -> x.falls(n[0]), PIN));
        rows.add(row("20 whose", TEN, (x, n) -> x.whose(n[0]), PIN));
        rows.add(row("21 reads", TEN, (x, n) -> x.reads(n[0], n[1], n[2]), span(1, 9999), span(1, 99), PIN));
        rows.add(row("22 set", TEN, (x, n) -> x.set(n[0], n[1], n[2]), PARTY, span(1, 2), span(0, 2)));
        rows.add(new Row("23 shut", TEN, (x, n) -> x.shut(n[0], n[1]), (x, n) -> x.fallen(n[0]) == 1, new Span[] {PIN, MINUTE}));
        rows.add(row("24 lean", TEN, (x, n) -> x.lean(n[0], n[1]), PIN, span(CandleHouse.NONE, 299)));
        rows.add(row("25 leaned", TEN, (x, n) -> x.leaned(n[0]), ONE_OF_TWO));
        rows.add(row("26 quorum", TEN, (x, n) -> x.quorum(n[0], n[1], n[2]), span(1, 30), span(0, 60), ONE_OF_TWO));
        rows.add(row("27 tallow", TEN, (x, n) -> x.tallow(n[0], n[1]), PIN, ONE_OF_TWO));
        rows.add(row("28 race", BAD, (x, n) -> x.race(n[0], n[1]), span(1, 9), span(1, 9)));
        rows.add(new Row("29 game", TEN, (x, n) -> x.game(n[0], n[1], n[2], n[3], n[4]),
            (x, n) -> n[0] == n[2] || n[1] == n[3], new Span[] {PARTY, DOOR, PARTY, DOOR, ONE_OF_TWO}));
        rows.add(row("30 moths", BAD, (x, n) -> x.moths(n[0], n[1], n[2]), span(0, 60), span(0, 100), span(0, 999999)));
        rows.add(row("31 loan", BAD, (x, n) -> x.loan(n[0]), ONE_OF_TWO));
        rows.add(row("32 image", BAD, (x, n) -> x.image(n[0]), ONE_OF_TWO));
        rows.add(row("33 from", BAD, (x, n) -> x.from(n[0]), ONE_OF_TWO));
        rows.add(row("34 status", NO_STATUS, (x, n) -> x.status(n[0]), span(0, 2)));
        rows.add(row("35 count", BAD, (x, n) -> x.count(n[0]), span(0, 9)));
        return rows;
    }

    private static List<Watch.Making> houses() {
        List<Watch.Making> houses = new ArrayList<>();
        houses.add(CandleHouse::new);
        houses.add(BoundsOfNumbersTest::furnished);
        houses.add(BoundsOfNumbersTest::full);
        houses.add(() -> Watch.told("candle 1;thick 0 1;door 0;pin 2 0;member 0 0 0 0;"));
        houses.add(() -> {
            CandleHouse x = furnished();
            x.minute(20);
            return x;
        });
        return houses;
    }

    /** PINS 0 and 1 have fallen, PINS 2 and 3 have not. */
    private static CandleHouse furnished() {
        CandleHouse x = Watch.told("candle 8;thick 7 9;door 2;door 3;door 0;open 0;pin 0 0;pin 1 2;pin 2 6;pin 0 7;member 5 1 1 3;");
        x.member(1, 0, 0, 99);
        x.lean(2, 8);
        x.minute(2);
        x.image(0);
        x.minute(2);
        return x;
    }

    private static CandleHouse full() {
        CandleHouse x = Watch.tall();
        for (int i = 0; i < 5; i++) {
            x.door(i % 4);
        }
        for (int i = 0; i < 9; i++) {
            x.pin(i % 3, 2 * i);
        }
        for (int i = 0; i < 6; i++) {
            x.member(i, i % 3, 10 * i, 99);
        }
        Watch.type(x, "candle 2;" + " ".repeat(141));
        x.image(0);
        x.image(1);
        return x;
    }

    private static void tryAll(Row row, String house, Watch.Making making) {
        CandleHouse x = making.make();
        int[] base = new int[row.spans().length];
        for (int i = 0; i < base.length; i++) {
            base[i] = row.spans()[i].in(x)[1];
        }
        if (row.name().equals("29 game")) {
            base[2]--;
            base[3]--;
        }
        for (int i = 0; i < base.length; i++) {
            int[] span = row.spans()[i].in(x);
            int[] tried = {MIN, span[0] - 1, span[0], span[0] + 1, span[1] - 1, span[1], span[1] + 1, MAX};
            for (int number : tried) {
                int[] numbers = base.clone();
                numbers[i] = number;
                tryOne(row, house, making, numbers);
            }
        }
        int[] allWrong = new int[base.length];
        Arrays.fill(allWrong, MIN);
        tryOne(row, house, making, allWrong);
    }

    private static void tryOne(Row row, String house, Watch.Making making, int[] numbers) {
        String what = house + ": " + row.name() + " " + Arrays.toString(numbers);
        if (isBad(row, making.make(), numbers)) {
            WATCH.refused(what, making, x -> row.call().on(x, numbers), row.refusal(), Watch.AS_BAD);
            return;
        }
        CandleHouse x = making.make();
        int bad = x.status(0);
        int answer = row.call().on(x, numbers);
        DUE.holds(what + " is taken, but answered " + answer, answer != BAD && answer != TEN);
        DUE.is(what + " is not counted as BAD", x.status(0), bad);
    }

    private static boolean isBad(Row row, CandleHouse x, int[] numbers) {
        for (int i = 0; i < numbers.length; i++) {
            int[] span = row.spans()[i].in(x);
            if (numbers[i] < span[0] || numbers[i] > span[1]) {
                return true;
            }
        }
        return row.clash().of(x, numbers);
    }
}
