import java.util.Random;

/**
 * Calls of all sorts with all sorts of numbers, drawn by a fixed seed: none throws, a refused call changes nothing but
 * STATUS and counts once, a question changes nothing, and an image brings all back.
 */
public final class WildCallsTest {
    private static final Due DUE = new Due("WildCallsTest");
    private static final int MOST_CALLS = 512;
    private static final int DEAREST_STEP = 40;
    private static final int[] ODD = {Integer.MIN_VALUE, -3, -2, -1, 9, 10, 11, 19, 20, 21, 30, 31, 59, 60, 61, 98, 99, 100, 101,
        127, 128, 299, 300, 9999, 10000, 999999, 1000000, Integer.MAX_VALUE};
    private static final String TEXT = "candle 7;thick 1 9;door 2;open 0;pin 1 3;member 4 2 1 30;door 3;candle 1";

    private final Random random;
    private final CandleHouse house = new CandleHouse();
    private int calls = 0;

    private WildCallsTest(int seed) {
        random = new Random(seed);
    }

    public static void main(String[] args) {
        for (int seed = 0; seed < 4000; seed++) {
            new WildCallsTest(seed).run();
        }
        DUE.end();
    }

    private void run() {
        furnish();
        while (calls < MOST_CALLS - DEAREST_STEP) {
            switch (random.nextInt(8)) {
                case 0:
                case 1:
                case 2: step("tell", true); break;
                case 3: step("ask", false); break;
                case 4:
                case 5: step("askTen", false); break;
                case 6: step("plain", false); break;
                default: typeReadOrImage();
            }
        }
    }

    private void furnish() {
        for (int i = 0; i < 12; i++) {
            house.door(random.nextInt(4));
            house.pin(random.nextInt(3), random.nextInt(10));
            house.member(random.nextInt(6), random.nextInt(3), random.nextInt(10), random.nextInt(100));
            calls += 3;
        }
    }

    private int any() {
        return random.nextInt(5) == 0 ? ODD[random.nextInt(ODD.length)] : random.nextInt(6);
    }

    private int refusals() {
        return house.status(0) + house.status(1) + house.status(2);
    }

    private void step(String sort, boolean mayChange) {
        calls += 12;
        long ahead = house.digest();
        int refusedAhead = refusals();
        int refused = 0;
        switch (sort) {
            case "tell": refused = within(tell(), -4, -2); break;
            case "ask": refused = within(ask(), -4, -2); break;
            case "askTen": refused = within(askTen(), -10, -10); break;
            default: plain();
        }
        DUE.is(sort + ": refusals", refusals(), refusedAhead + refused);
        if (refused == 1 || !mayChange) {
            DUE.is(sort + ": digest", house.digest(), ahead);
        }
        DUE.holds("BURNT is at most all wax", house.count(1) <= house.count(2));
        DUE.holds("half of BURNT is OWED at most", house.count(7) <= house.count(1) / 2);
    }

    private static int within(long answer, int least, int most) {
        return answer >= least && answer <= most ? 1 : 0;
    }

    private int tell() {
        switch (random.nextInt(10)) {
            case 0: return random.nextInt(4) == 0 ? house.candle(any()) : house.undo();
            case 1: return house.thick(any(), any());
            case 2: return house.door(any());
            case 3: return house.open(any(), random.nextBoolean());
            case 4: return house.pin(any(), any());
            case 5: return house.member(any(), any(), any(), any());
            case 6: return house.drop(any());
            case 7: return house.minute(any());
            case 8: return house.from(any());
            default: return house.type(any());
        }
    }

    private int ask() {
        switch (random.nextInt(8)) {
            case 0: return house.votes(any(), any());
            case 1: return house.burns(any());
            case 2: return house.fallen(any());
            case 3: return house.race(any(), any());
            case 4: return house.moths(any(), any(), any());
            case 5: return house.loan(any());
            case 6: return house.image(any());
            default: return house.count(any());
        }
    }

    private int askTen() {
        switch (random.nextInt(10)) {
            case 0: return house.house(any());
            case 1: return house.falls(any());
            case 2: return house.whose(any());
            case 3: return house.reads(any(), any(), any());
            case 4: return house.set(any(), any(), any());
            case 5: return house.shut(any(), any());
            case 6: return house.leaned(any());
            case 7: return house.quorum(any(), any(), any());
            case 8: return house.tallow(any(), any());
            default: return house.game(any(), any(), any(), any(), any());
        }
    }

    private void plain() {
        house.out();
        house.digest();
        house.status(random.nextInt(3));
    }

    private void typeReadOrImage() {
        switch (random.nextInt(4)) {
            case 0: typeSome(); break;
            case 1: readIt(); break;
            case 2: leanOnce(); break;
            default: imageAndBack();
        }
    }

    private void typeSome() {
        for (int i = random.nextInt(30); i > 0; i--) {
            boolean odd = random.nextInt(100) == 0;
            house.type(odd ? random.nextInt(128) : TEXT.charAt(house.count(9) % TEXT.length()));
            calls += 2;
        }
        if (random.nextInt(12) == 0) {
            house.clear();
        }
    }

    private void readIt() {
        calls += 11;
        long ahead = house.digest();
        int refusedAhead = refusals();
        int length = house.count(9);
        int answer = house.read();
        boolean fault = answer <= -10 && answer >= -10 - length;
        boolean item = answer <= -1000 && answer > -1030;
        DUE.holds("read answers ITEMS, a FAULT or an ITEM: " + answer, answer > 0 || fault || item);
        DUE.is("read is never refused", refusals(), refusedAhead);
        DUE.is("THE TEXT stays", house.count(9), length);
        if (answer < 0) {
            DUE.is("read answered " + answer + ": digest", house.digest(), ahead);
        }
    }

    private void leanOnce() {
        calls += 11;
        long ahead = house.digest();
        int refusedAhead = refusals();
        int pin = any();
        int was = house.lean(pin, any());
        DUE.is("lean: refusals", refusals(), refusedAhead + (was == -10 ? 1 : 0));
        if (was != -10) {
            house.lean(pin, was);
        }
        DUE.is("lean and back: digest", house.digest(), ahead);
    }

    private void imageAndBack() {
        calls += 30;
        long ahead = house.digest();
        int i = random.nextInt(2);
        house.image(i);
        for (int j = random.nextInt(20); j > 0; j--) {
            tellButFrom();
        }
        DUE.is("from", house.from(i), 1);
        DUE.is("from an IMAGE: digest", house.digest(), ahead);
    }

    private void tellButFrom() {
        switch (random.nextInt(8)) {
            case 0: house.thick(any(), any()); break;
            case 1: house.door(any()); break;
            case 2: house.open(any(), random.nextBoolean()); break;
            case 3: house.pin(any(), any()); break;
            case 4: house.lean(any(), any()); break;
            case 5: house.drop(random.nextInt(2)); break;
            case 6: house.minute(1 + random.nextInt(20)); break;
            default: house.undo();
        }
    }
}
