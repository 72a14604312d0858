import java.util.Random;

/**
 * Asks about minutes to come, and then lets them come on another object made alike: on many chambers, drawn by a fixed
 * seed, what was foretold has to be what comes. Best sets and pairs are sought here by trying every one.
 */
public final class AgreementTest {
    private static final int NONE = CandleHouse.NONE;
    private static final int FAR = 200;
    private static final Due DUE = new Due("AgreementTest");

    private final Random random;
    private int slices;
    private int[] thick;
    private int[] draughts;
    private int openDoors;
    private int[][] pins;
    private int[][] members;
    private int gone;
    /** Burnt behind each minute to come, by the set of doors. */
    private int[][] behind;
    private int[] house;
    private int[] flame;
    private int[] votesOfAll;

    private AgreementTest(int seed) {
        random = new Random(seed);
    }

    public static void main(String[] args) {
        for (int seed = 0; seed < 400; seed++) {
            new AgreementTest(seed).compare();
        }
        DUE.end();
    }

    private void draw() {
        slices = 1 + random.nextInt(20);
        thick = new int[slices];
        for (int i = 0; i < slices; i++) {
            thick[i] = 1 + random.nextInt(9);
        }
        draughts = new int[random.nextInt(6)];
        for (int i = 0; i < draughts.length; i++) {
            draughts[i] = random.nextInt(4);
        }
        openDoors = random.nextInt(1 << draughts.length);
        pins = new int[random.nextInt(10)][];
        for (int i = 0; i < pins.length; i++) {
            pins[i] = new int[] {random.nextInt(3), random.nextInt(slices)};
        }
        members = new int[random.nextInt(7)][];
        for (int i = 0; i < members.length; i++) {
            members[i] = new int[] {random.nextInt(6), random.nextInt(3), random.nextInt(40), random.nextInt(100)};
        }
        gone = random.nextInt(3) == 0 ? 0 : random.nextInt(21);
    }

    private CandleHouse make() {
        CandleHouse x = new CandleHouse();
        x.candle(slices);
        for (int i = 0; i < slices; i++) {
            x.thick(i, thick[i]);
        }
        for (int i = 0; i < draughts.length; i++) {
            x.door(draughts[i]);
            if ((openDoors >> i & 1) == 1) {
                x.open(i, true);
            }
        }
        for (int[] p : pins) {
            x.pin(p[0], p[1]);
        }
        for (int[] m : members) {
            x.member(m[0], m[1], m[2], m[3]);
        }
        if (gone > 0) {
            x.minute(gone);
        }
        return x;
    }

    private CandleHouse makeWith(int doors) {
        CandleHouse x = make();
        for (int i = 0; i < draughts.length; i++) {
            x.open(i, (doors >> i & 1) == 1);
        }
        return x;
    }

    private int above(int slice) {
        int sum = 0;
        for (int i = 0; i < slice; i++) {
            sum += thick[i];
        }
        return sum;
    }

    private void letCome() {
        behind = new int[1 << draughts.length][FAR];
        for (int doors = 0; doors < behind.length; doors++) {
            CandleHouse x = makeWith(doors);
            for (int i = 0; i < FAR; i++) {
                behind[doors][i] = x.minute(1);
            }
        }
        house = new int[300];
        flame = new int[300];
        votesOfAll = new int[300];
        CandleHouse[] x = {make(), make(), make(), make(), make()};
        for (int i = 0; i < 300; i++) {
            house[i] = x[0].house(i);
            flame[i] = x[1].burns(i);
            votesOfAll[i] = x[2].votes(0, i) + x[3].votes(1, i) + x[4].votes(2, i);
        }
    }

    private boolean isPast(int slice, int burnt) {
        return gone > 0 && burnt >= above(slice);
    }

    private int fall(int slice, int doors, int burnt) {
        if (isPast(slice, burnt)) {
            return NONE;
        }
        for (int i = 0; i < FAR; i++) {
            if (behind[doors][i] >= above(slice)) {
                return gone + i;
            }
        }
        return NONE;
    }

    private void compare() {
        draw();
        letCome();
        CandleHouse x = make();
        int burnt = x.count(1);
        long ahead = x.digest();
        comparePins(x, burnt);
        compareOut(x, burnt);
        compareSet(x, burnt);
        compareLeaned(x, burnt);
        compareGame(x, burnt);
        compareMoths(x);
        compareQuorum(x);
        DUE.holds("nothing changed but what was told", pins.length > 0 || x.digest() == ahead);
    }

    private void comparePins(CandleHouse x, int burnt) {
        for (int i = 0; i < pins.length; i++) {
            int slice = pins[i][1];
            int fall = fall(slice, openDoors, burnt);
            DUE.is("fallen", x.fallen(i), isPast(slice, burnt) ? 1 : 0);
            DUE.is("falls", x.falls(i), fall);
            DUE.is("whose", x.whose(i), fall == NONE ? NONE : house[fall]);
            DUE.is("reads", x.reads(300, 7, i), fall == NONE ? NONE : Math.min(300, 7 * (fall - gone + 1)));
            DUE.is("half", x.tallow(i, 0), tallow(slice, burnt, false));
            DUE.is("twice", x.tallow(i, 1), tallow(slice, burnt, true));
            compareShut(x, i, burnt, gone + random.nextInt(30));
        }
    }

    private int tallow(int slice, int burnt, boolean twice) {
        if (isPast(slice, burnt)) {
            return NONE;
        }
        int goal = 0;
        for (int i = 0; i < slice; i++) {
            goal += twice ? 2 * thick[i] : thick[i] - thick[i] / 2;
        }
        int sum = burnt;
        for (int i = 1; i <= FAR; i++) {
            sum += flame[gone + i - 1];
            if (sum >= goal) {
                return i;
            }
        }
        return NONE;
    }

    private void compareShut(CandleHouse x, int pin, int burnt, int t) {
        int slice = pins[pin][1];
        int best = isPast(slice, burnt) ? -10 : NONE;
        for (int size = 0; size <= draughts.length && best == NONE; size++) {
            for (int bits = 0; bits < behind.length && best == NONE; bits++) {
                boolean may = Integer.bitCount(bits) == size && (bits & openDoors) == bits;
                if (may && fall(slice, openDoors - bits, burnt) >= t) {
                    best = bits;
                }
            }
        }
        DUE.is("shut", x.shut(pin, t), best);
    }

    private void compareOut(CandleHouse x, int burnt) {
        int wax = above(slices);
        int minutes = burnt == wax ? 0 : -1;
        for (int i = 0; i < FAR && minutes < 0; i++) {
            minutes = behind[openDoors][i] == wax ? i + 1 : -1;
        }
        DUE.is("out", x.out(), minutes == 0 ? NONE : gone + minutes - 1);
        for (int k = 1; k <= 9; k++) {
            for (int d = 1; d <= 9; d++) {
                int others = 0;
                for (int left = slices * k; left > 0; left -= d) {
                    others++;
                }
                DUE.is("race", x.race(k, d), minutes == others ? 2 : minutes < others ? 0 : 1);
            }
        }
    }

    private int gain(int slice, int party, int burnt) {
        int fall = fall(slice, openDoors, burnt);
        return fall != NONE && house[fall] == party ? 1 : 0;
    }

    private void compareSet(CandleHouse x, int burnt) {
        for (int party = 0; party < 3; party++) {
            int[] one = {NONE, NONE, NONE};
            int[] two = {NONE, NONE, NONE};
            for (int a = 0; a < slices; a++) {
                if (isPast(a, burnt)) {
                    continue;
                }
                if (gain(a, party, burnt) > one[0]) {
                    one = new int[] {gain(a, party, burnt), a, NONE};
                }
                for (int b = a; b < slices; b++) {
                    int both = gain(a, party, burnt) + gain(b, party, burnt);
                    if (!isPast(b, burnt) && both > two[0]) {
                        two = new int[] {both, a, b};
                    }
                }
            }
            for (int what = 0; what < 3; what++) {
                DUE.is("set one", x.set(party, 1, what), one[what]);
                DUE.is("set two", x.set(party, 2, what), two[what]);
            }
        }
    }

    private void compareLeaned(CandleHouse x, int burnt) {
        int[] told = new int[pins.length];
        int doors = random.nextInt(behind.length);
        for (int i = 0; i < pins.length; i++) {
            told[i] = random.nextInt(3) == 0 ? NONE : fall(pins[i][1], doors, burnt);
            if (random.nextInt(20) == 0) {
                told[i] = random.nextInt(300);
            }
            DUE.is("lean", x.lean(i, told[i]), NONE);
        }
        int sets = 0;
        int least = NONE;
        for (int bits = behind.length - 1; bits >= 0; bits--) {
            boolean all = true;
            for (int i = 0; i < pins.length; i++) {
                all &= told[i] == NONE || told[i] == fall(pins[i][1], bits, burnt);
            }
            if (all) {
                sets++;
                least = bits;
            }
        }
        DUE.is("leaned, how many", x.leaned(0), sets);
        DUE.is("leaned, the least", x.leaned(1), least);
    }

    private int gains(int party, int doors, int burnt) {
        int gain = 0;
        for (int[] p : pins) {
            int fall = fall(p[1], doors, burnt);
            if (fall != NONE && house[fall] == p[0]) {
                gain += p[0] == party ? 1 : -1;
            }
        }
        return gain;
    }

    private int doors(int oneDoor, int a, int otherDoor, int b) {
        int others = openDoors & ~(1 << oneDoor | 1 << otherDoor);
        return others | a << oneDoor | b << otherDoor;
    }

    private void compareGame(CandleHouse x, int burnt) {
        for (int i = 0; i < 20 && draughts.length > 1; i++) {
            int one = random.nextInt(3);
            int other = (one + 1 + random.nextInt(2)) % 3;
            int oneDoor = random.nextInt(draughts.length);
            int otherDoor = (oneDoor + 1 + random.nextInt(draughts.length - 1)) % draughts.length;
            int pairs = 0;
            int first = NONE;
            for (int a = 1; a >= 0; a--) {
                for (int b = 1; b >= 0; b--) {
                    int here = doors(oneDoor, a, otherDoor, b);
                    boolean oneMore = gains(one, doors(oneDoor, 1 - a, otherDoor, b), burnt) > gains(one, here, burnt);
                    boolean otherMore = gains(other, doors(oneDoor, a, otherDoor, 1 - b), burnt) > gains(other, here, burnt);
                    if (!oneMore && !otherMore) {
                        pairs++;
                        first = 10 * a + b;
                    }
                }
            }
            DUE.is("game, how many", x.game(one, oneDoor, other, otherDoor, 0), pairs);
            DUE.is("game, the first", x.game(one, oneDoor, other, otherDoor, 1), first);
        }
    }

    private void compareMoths(CandleHouse x) {
        int m = random.nextInt(61);
        int w = random.nextInt(101);
        int seed = random.nextInt(1000000);
        long state = seed;
        int burnt = x.count(1);
        for (int i = 0; i < m; i++) {
            state = state * 1103515245L + 12345L & 0x7fffffffL;
            boolean burns = (state >> 16) % 100 >= w;
            burnt = Math.min(above(slices), burnt + (burns ? flame[gone + i] : 0));
        }
        DUE.is("moths", x.moths(m, w, seed), burnt);
    }

    private void compareQuorum(CandleHouse x) {
        for (int q = 1; q <= 18; q++) {
            int n = random.nextInt(61);
            int sum = 0;
            int first = NONE;
            for (int i = n - 1; i >= 0; i--) {
                if (votesOfAll[gone + i] >= q) {
                    sum++;
                    first = gone + i;
                }
            }
            DUE.is("quorum, in how many", x.quorum(q, n, 0), sum);
            DUE.is("quorum, the first", x.quorum(q, n, 1), first);
        }
    }
}
