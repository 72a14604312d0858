import java.lang.reflect.InvocationTargetException;
import java.lang.reflect.Method;
import java.util.ArrayDeque;
import java.util.Deque;
import java.util.HashMap;
import java.util.Map;
import java.util.Random;

/**
 * Runs of 512 calls on one object, drawn by a fixed seed, each answer compared with the SecondHouse's: every promise, to
 * the last call. Each run has a temper of its own (which calls come often, how wild the numbers are), and the last call is
 * each of the face's in turn.
 */
public final class LongRunsTest {
    private static final Due DUE = new Due("LongRunsTest");
    private static final int MOST_CALLS = 512;
    private static final int RUNS = 2100;
    /** Each call with the spans of its numbers; S, D, P, T: a SLICE, a DOOR, a PIN that there is, a MINUTE near by. */
    private static final String[] CALLS = {"candle 1-20", "thick S 1-9", "door 0-3", "open D 0-1", "pin 0-2 S",
        "member 0-5 0-2 0-99 0-99", "drop 0-1", "type 0-127", "clear", "read", "minute 1-20", "undo", "house T", "votes 0-2 T",
        "burns T", "fallen P", "falls P", "out", "whose P", "reads 1-9999 1-99 P", "set 0-2 1-2 0-2", "shut P T", "lean P T",
        "leaned 0-1", "quorum 1-30 0-60 0-1", "tallow P 0-1", "race 1-9 1-9", "game 0-2 D 0-2 D 0-1", "moths 0-60 0-100 0-999999",
        "loan 0-1", "image 0-1", "from 0-1", "status 0-2", "count 0-9", "digest"};
    private static final int[] FAR_OFF = {Integer.MIN_VALUE, -300, -11, -10, -4, -3, -2, -1, 128, 1000, 10000, 1000000, Integer.MAX_VALUE};
    private static final int[] USUAL = {0, 1, 2, 4, 8};
    private static final Map<String, Method> FIRST = new HashMap<>();
    private static final Map<String, Method> SECOND = new HashMap<>();

    private final Random random;
    private final int seed;
    private final CandleHouse house = new CandleHouse();
    private final SecondHouse second = new SecondHouse();
    private final int[] weights = new int[CALLS.length];
    private final Deque<String> planned = new ArrayDeque<>();
    private final int wildness;
    private final int mostMinutes;
    private final boolean types;
    private int calls = 0;

    private LongRunsTest(int seed) {
        this.seed = seed;
        random = new Random(seed);
        wildness = new int[] {0, 2, 5, 30}[random.nextInt(4)];
        mostMinutes = new int[] {1, 2, 5, 20}[random.nextInt(4)];
        types = random.nextInt(4) == 0;
        for (int i = 0; i < weights.length; i++) {
            weights[i] = USUAL[random.nextInt(USUAL.length)];
        }
        calm("candle", 1);
        calm("read", 1);
        calm("clear", 1);
        calm("drop", 4);
        calm("minute", 4);
        calm("type", types ? 4 : 1);
    }

    public static void main(String[] args) throws ReflectiveOperationException {
        learn(CandleHouse.class, FIRST);
        learn(SecondHouse.class, SECOND);
        for (int seed = 0; seed < RUNS; seed++) {
            new LongRunsTest(seed).run();
        }
        DUE.end();
    }

    private static void learn(Class<?> face, Map<String, Method> methods) {
        for (String call : CALLS) {
            String name = call.split(" ")[0];
            for (Method m : face.getDeclaredMethods()) {
                if (m.getName().equals(name)) {
                    m.setAccessible(true);
                    methods.put(name, m);
                }
            }
        }
    }

    /** Calls that throw away what stands come seldom, so that something stands. */
    private void calm(String name, int most) {
        for (int i = 0; i < CALLS.length; i++) {
            if (CALLS[i].split(" ")[0].equals(name)) {
                weights[i] = Math.min(weights[i], most);
            }
        }
    }

    private void run() throws ReflectiveOperationException {
        furnish();
        while (calls < MOST_CALLS - 1) {
            boolean goesOn = !planned.isEmpty() && random.nextInt(40) > 0;
            call(goesOn ? planned.poll() : drawn());
        }
        call(withNumbers(CALLS[seed % CALLS.length]));
    }

    private void furnish() {
        if (random.nextInt(3) == 0) {
            planTallCandle();
        }
        for (int i = random.nextInt(10); i > 0; i--) {
            planned.add(withNumbers("thick S 1-9"));
            planned.add("door " + random.nextInt(4));
            planned.add("open " + random.nextInt(5) + " 1");
            planned.add("pin " + random.nextInt(3) + " " + random.nextInt(10));
            planned.add(member());
        }
    }

    /** Twice so thick, it may burn longer than 200 minutes. */
    private void planTallCandle() {
        planned.add("candle 20");
        int thickest = random.nextInt(21);
        for (int i = 0; i < thickest; i++) {
            planned.add("thick " + i + " 9");
        }
        planned.add("pin " + random.nextInt(3) + " " + (10 + random.nextInt(10)));
        planned.add("tallow 0 1");
    }

    private String member() {
        int from = random.nextInt(30);
        return "member " + random.nextInt(6) + " " + random.nextInt(3) + " " + from + " " + (from + random.nextInt(70));
    }

    private String drawn() {
        int sort = random.nextInt(60);
        if (sort == 0 && types && planned.isEmpty()) {
            planChamber();
        }
        if (sort == 1 && planned.isEmpty()) {
            planLeaning();
        }
        int sum = 0;
        for (int w : weights) {
            sum += w;
        }
        int left = random.nextInt(Math.max(1, sum));
        for (int i = 0; i < CALLS.length; i++) {
            left -= weights[i];
            if (left < 0) {
                return withNumbers(CALLS[i]);
            }
        }
        return "digest";
    }

    /** A whole text is typed and read; now and then with something wrong in it. */
    private void planChamber() {
        StringBuilder text = new StringBuilder("candle " + (1 + random.nextInt(20)) + ";");
        for (int i = random.nextInt(14); i > 0; i--) {
            String item = withNumbers(CALLS[1 + random.nextInt(5)]).replaceAll("^(open [^ ]+) .*", "$1");
            text.append(" ".repeat(random.nextInt(3))).append(random.nextInt(4) == 0 ? member() : item);
            text.append(" ".repeat(random.nextInt(2))).append(';');
        }
        if (random.nextInt(3) == 0) {
            int place = random.nextInt(text.length());
            text.replace(place, place + random.nextInt(2), "" + "; 0129acdekhmnoprt!-".charAt(random.nextInt(20)));
        }
        planned.add("clear");
        for (char c : text.toString().toCharArray()) {
            planned.add("type " + (int) c);
        }
        planned.add("read");
        planned.add("digest");
        if (text.length() > 120) {
            planned.add("type 32");
        }
    }

    /** What the DOORS as they are will do is told, so that a set there is. */
    private void planLeaning() {
        for (int pin = 0; pin < second.count(5); pin++) {
            int minute = second.falls(pin);
            if (random.nextInt(3) > 0) {
                planned.add("lean " + pin + " " + (random.nextInt(12) == 0 ? minute + 1 : minute));
            }
        }
        planned.add("leaned 0");
        planned.add("leaned 1");
    }

    private String withNumbers(String shape) {
        String[] words = shape.split(" ");
        if (words[0].equals("game") && random.nextInt(3) > 0) {
            return gameOfTwo();
        }
        StringBuilder call = new StringBuilder(words[0]);
        for (int i = 1; i < words.length; i++) {
            boolean flag = words[0].equals("open") && i == 2;
            call.append(' ').append(flag ? random.nextInt(2) : number(words[0], words[i]));
        }
        return call.toString();
    }

    private String gameOfTwo() {
        int doors = Math.max(2, second.count(4));
        int one = random.nextInt(3);
        int oneDoor = random.nextInt(doors);
        return "game " + one + " " + oneDoor + " " + (one + 1 + random.nextInt(2)) % 3 + " "
            + (oneDoor + 1 + random.nextInt(doors - 1)) % doors + " " + random.nextInt(2);
    }

    private int number(String name, String span) {
        if (random.nextInt(100) < wildness) {
            return FAR_OFF[random.nextInt(FAR_OFF.length)];
        }
        int beyond = random.nextInt(100) < wildness ? 1 : 0;
        if (name.equals("minute") && beyond == 0) {
            return 1 + random.nextInt(mostMinutes);
        }
        if (span.equals("1-9999") && random.nextBoolean()) {
            return 1 + random.nextInt(99);
        }
        switch (span) {
            case "S": return random.nextInt(second.count(0) + beyond);
            case "D": return random.nextInt(Math.max(1, second.count(4) + beyond));
            case "P": return random.nextInt(Math.max(1, second.count(5) + beyond));
            case "T": return random.nextInt(3) == 0 ? random.nextInt(300 + beyond) : second.count(3) + random.nextInt(40) - beyond;
            default: return between(span.split("-"), beyond);
        }
    }

    private int between(String[] ends, int beyond) {
        int least = Integer.parseInt(ends[0]);
        int most = Integer.parseInt(ends[1]);
        int sort = random.nextInt(12);
        if (beyond == 1) {
            return sort % 2 == 0 ? least - 1 : most + 1;
        }
        if (sort < 2) {
            return sort == 0 ? least : most;
        }
        return least + random.nextInt(most - least + 1);
    }

    private void call(String call) throws ReflectiveOperationException {
        calls++;
        String[] words = call.split(" ");
        Object[] numbers = new Object[words.length - 1];
        for (int i = 0; i < numbers.length; i++) {
            numbers[i] = Integer.parseInt(words[i + 1]);
        }
        if (words[0].equals("open")) {
            numbers[1] = words[2].equals("1");
        }
        DUE.is("seed " + seed + ", call " + calls + ": " + call, answer(FIRST, house, words[0], numbers),
            answer(SECOND, second, words[0], numbers));
    }

    private static long answer(Map<String, Method> methods, Object of, String name, Object[] numbers)
            throws ReflectiveOperationException {
        try {
            return ((Number) methods.get(name).invoke(of, numbers)).longValue();
        } catch (InvocationTargetException thrown) {
            throw new IllegalStateException(of.getClass() + " has thrown in " + name, thrown.getCause());
        }
    }
}
