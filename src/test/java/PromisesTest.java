/** For each promise of the document: ordinary inputs, the edges it names, and wrong inputs. */
public final class PromisesTest {
    private static final int NONE = CandleHouse.NONE, BAD = CandleHouse.BAD, NO = CandleHouse.NO, FULL = CandleHouse.FULL;
    private static final int TEN = -10;
    private static final int MAX = Integer.MAX_VALUE, MIN = Integer.MIN_VALUE;
    private static final Due DUE = new Due("PromisesTest");

    public static void main(String[] args) {
        promise1();
        promise2();
        promise3();
        promise4();
        promise5();
        promise6();
        promise7();
        promise8();
        promise9And10();
        promise11Told();
        promise11Faults();
        promise11Refused();
        promise11FullTexts();
        promise12();
        promise12Drips();
        promise13();
        promise13MoreThanTwelve();
        promise14And15();
        promise16();
        promise17();
        promise18();
        promise19();
        promise20();
        promise21();
        promise22();
        promise23();
        promise24And25();
        promise26();
        promise27();
        promise28();
        promise29();
        promise29FirstOfAll();
        promise30();
        promise31();
        promise32And33();
        promise34();
        promise35();
        promise36();
        DUE.end();
    }

    private static void due(String call, long got, long want) {
        DUE.is(call, got, want);
    }

    private static void type(CandleHouse x, String text) {
        x.clear();
        for (int i = 0; i < text.length(); i++) {
            x.type(text.charAt(i));
        }
    }

    private static int read(String text) {
        CandleHouse x = new CandleHouse();
        type(x, text);
        return x.read();
    }

    private static CandleHouse told(String text) {
        CandleHouse x = new CandleHouse();
        type(x, text);
        DUE.holds("reads: " + text, x.read() > 0);
        return x;
    }

    private static long digestOf(long... values) {
        long h = 877;
        for (long v : values) {
            h = 31 * h + v;
        }
        return h;
    }

    private static void dueCounts(String when, CandleHouse x, int... want) {
        for (int i = 0; i < want.length; i++) {
            due(when + ": count(" + i + ")", x.count(i), want[i]);
        }
    }

    private static void promise1() {
        CandleHouse x = new CandleHouse();
        dueCounts("new", x, 10, 0, 40, 0, 0, 0, 0, 0, 0, 0);
        due("1 digest", x.digest(), digestOf(10, 0, 40, 0, 0, 0, 0, 0, 0, 0, 4, 4, 4, 4, 4, 4, 4, 4, 4, 4));
        for (int i = 0; i < 3; i++) {
            due("1 status", x.status(i), 0);
        }
        due("1 undo", x.undo(), NO);
        due("1 from", x.from(0), NO);
        due("1 from", x.from(1), NO);
        due("1 NONE", CandleHouse.NONE, -1);
        due("1 BAD", CandleHouse.BAD, -2);
        due("1 NO", CandleHouse.NO, -3);
        due("1 FULL", CandleHouse.FULL, -4);
    }

    private static void promise2() {
        CandleHouse x = new CandleHouse();
        int[] wrong = {0, 21, -1, MAX, MIN};
        for (int n : wrong) {
            due("2 candle(" + n + ")", x.candle(n), BAD);
        }
        due("2 nothing changed", x.count(0), 10);
        due("2 candle(1)", x.candle(1), 10);
        due("2 candle(20)", x.candle(20), 1);
        due("2 all wax", x.count(2), 80);

        x.thick(19, 9);
        x.door(3);
        x.open(0, true);
        x.door(3);
        x.open(1, true);
        x.pin(2, 5);
        x.lean(0, 7);
        x.member(5, 1, 0, 99);
        x.type('c');
        x.image(0);
        x.minute(3);
        dueCounts("2 ahead", x, 20, 27, 85, 3, 2, 1, 1, 9, 3, 1);
        due("2 candle(20)", x.candle(20), 20);
        dueCounts("2 anew", x, 20, 0, 80, 0, 0, 0, 0, 0, 0, 1);
        due("2 undo", x.undo(), NO);
        due("2 THICK", x.thick(19, 4), 4);
        x.door(1);
        due("2 the DOOR is shut", x.burns(0), 1);
        x.pin(0, 1);
        due("2 the PIN is not told", x.lean(0, 1), NONE);
        due("2 STATUS is kept", x.status(0), 5);
        due("2 IMAGES are kept", x.from(0), 1);
        due("2 from the IMAGE", x.count(4), 2);
    }

    private static void promise3() {
        CandleHouse x = new CandleHouse();
        due("3 thick(0, 9)", x.thick(0, 9), 4);
        due("3 thick(0, 1)", x.thick(0, 1), 9);
        due("3 thick(9, 2)", x.thick(9, 2), 4);
        due("3 all wax", x.count(2), 35);
        int[][] wrong = {{-1, 4}, {10, 4}, {0, 0}, {0, 10}, {MAX, 1}, {MIN, 1}, {1, MAX}, {1, MIN}};
        for (int[] w : wrong) {
            due("3 thick(" + w[0] + ", " + w[1] + ")", x.thick(w[0], w[1]), BAD);
        }
        x.minute(1);
        due("3 all of it is BURNT", x.thick(0, 4), NO);
        due("3 none of it is BURNT yet", x.thick(1, 2), 4);
        x.minute(1);
        due("3 some of it is BURNT", x.thick(1, 3), NO);
        due("3 BAD goes ahead of NO", x.thick(1, 10), BAD);
        due("3 the next", x.thick(2, 3), 4);
        x.undo();
        due("3 none of it is BURNT again", x.thick(1, 3), 2);
        due("3 all wax", x.count(2), 1 + 3 + 3 + 6 * 4 + 2);
        x.candle(3);
        due("3 a SLICE there is not", x.thick(3, 4), BAD);
    }

    private static void promise4() {
        CandleHouse x = new CandleHouse();
        due("4 door(-1)", x.door(-1), BAD);
        due("4 door(4)", x.door(4), BAD);
        for (int i = 0; i < 5; i++) {
            due("4 door", x.door(i % 4), i);
        }
        due("4 shut at first", x.burns(0), 1);
        due("4 a sixth", x.door(0), FULL);
        due("4 BAD goes ahead of FULL", x.door(4), BAD);
        due("4 DOORS", x.count(4), 5);
    }

    private static void promise5() {
        CandleHouse x = new CandleHouse();
        due("5 no DOOR", x.open(0, true), BAD);
        x.door(2);
        x.door(3);
        due("5 it is shut", x.open(1, false), NO);
        due("5 open", x.open(1, true), 1);
        due("5 burns", x.burns(0), 4);
        due("5 it is open", x.open(1, true), NO);
        due("5 open", x.open(0, true), 1);
        due("5 burns", x.burns(7), 6);
        due("5 shut", x.open(1, false), 1);
        due("5 burns", x.burns(7), 3);
        int[] wrong = {-1, 2, 5, 32, MAX, MIN};
        for (int d : wrong) {
            due("5 open(" + d + ")", x.open(d, true), BAD);
            due("5 shut(" + d + ")", x.open(d, false), BAD);
        }
    }

    private static void promise6() {
        CandleHouse x = new CandleHouse();
        int[][] wrong = {{-1, 0}, {3, 0}, {0, -1}, {0, 10}, {MAX, MAX}, {MIN, MIN}};
        for (int[] w : wrong) {
            due("6 pin(" + w[0] + ", " + w[1] + ")", x.pin(w[0], w[1]), BAD);
        }
        due("6 SLICE 0 in MINUTE 0", x.pin(0, 0), 0);
        due("6 two in one", x.pin(2, 0), 1);
        x.minute(1);
        due("6 SLICE 0 is past", x.pin(0, 0), NO);
        x.minute(2);
        due("6 SLICE 1 is not yet", x.pin(1, 1), 2);
        x.minute(1);
        due("6 SLICE 1 is past", x.pin(1, 1), NO);
        for (int i = 3; i < 9; i++) {
            due("6 pin", x.pin(1, 9), i);
        }
        due("6 a tenth", x.pin(1, 9), FULL);
        due("6 NO goes ahead of FULL", x.pin(1, 1), NO);
        due("6 BAD goes ahead of NO", x.pin(3, 1), BAD);
        due("6 PINS", x.count(5), 9);
        x.undo();
        due("6 after UNDO", x.pin(1, 1), FULL);
    }

    private static void promise7() {
        CandleHouse x = new CandleHouse();
        int[][] wrong = {{-1, 0, 0, 1}, {6, 0, 0, 1}, {0, -1, 0, 1}, {0, 3, 0, 1}, {0, 0, -1, 1}, {0, 0, 100, 1},
            {0, 0, 0, -1}, {0, 0, 0, 100}, {MAX, MAX, MAX, MAX}, {MIN, MIN, MIN, MIN}};
        for (int[] w : wrong) {
            due("7 member " + w[0] + " " + w[1] + " " + w[2] + " " + w[3], x.member(w[0], w[1], w[2], w[3]), BAD);
        }
        due("7 member", x.member(0, 0, 0, 99), 0);
        due("7 never IN", x.member(5, 2, 99, 0), 1);
        due("7 never IN", x.member(5, 2, 50, 50), 2);
        due("7 nobody", x.votes(2, 50), 0);
        due("7 nobody", x.votes(2, 99), 0);
        for (int i = 3; i < 6; i++) {
            due("7 member", x.member(1, 1, 0, 1), i);
        }
        due("7 a seventh", x.member(0, 0, 0, 0), FULL);
        due("7 BAD goes ahead of FULL", x.member(0, 3, 0, 0), BAD);
        due("7 MEMBERS", x.count(6), 6);
    }

    private static void promise8() {
        CandleHouse x = new CandleHouse();
        due("8 no PIN", x.drop(0), NO);
        due("8 no MEMBER", x.drop(1), NO);
        int[] wrong = {-1, 2, MAX, MIN};
        for (int w : wrong) {
            due("8 drop(" + w + ")", x.drop(w), BAD);
        }
        x.pin(0, 1);
        x.pin(1, 2);
        x.lean(1, 3);
        x.member(0, 0, 0, 9);
        x.member(3, 1, 0, 9);
        due("8 the last PIN", x.drop(0), 1);
        due("8 one is left", x.falls(0), 3);
        due("8 one is gone", x.falls(1), TEN);
        due("8 MEMBERS stay", x.house(0), 1);
        due("8 the last MEMBER", x.drop(1), 1);
        due("8 the first is left", x.house(0), 0);
        x.pin(1, 2);
        due("8 what was told is gone too", x.lean(1, NONE), NONE);
        due("8 drop", x.drop(0), 1);
        due("8 drop", x.drop(0), 0);
        due("8 drop", x.drop(1), 0);
        due("8 none", x.drop(0), NO);
    }

    private static void promise9And10() {
        CandleHouse x = new CandleHouse();
        int[] wrong = {-1, 128, MAX, MIN};
        for (int w : wrong) {
            due("9 type(" + w + ")", x.type(w), BAD);
        }
        due("10 it had none", x.clear(), 0);
        for (int i = 0; i < 150; i++) {
            due("9 type", x.type(i % 128), i + 1);
        }
        due("9 no room", x.type(0), FULL);
        due("9 BAD goes ahead of FULL", x.type(128), BAD);
        due("9 bytes", x.count(9), 150);
        due("10 clear", x.clear(), 150);
        due("10 bytes", x.count(9), 0);
        due("9 type", x.type(127), 1);
    }

    private static void promise11Told() {
        due("11 candle alone", read("candle 1;"), 1);
        due("11 no blanks", read("candle20;door3;open0;pin0 19;"), 4);
        due("11 blanks", read("   candle   2  ; pin  2   1 ;   "), 2);
        due("11 two figures", read("candle 05;member 05 01 00 99;"), 2);

        CandleHouse x = new CandleHouse();
        x.door(3);
        x.pin(0, 9);
        x.member(0, 0, 0, 9);
        x.image(1);
        x.minute(2);
        type(x, "candle 4;thick 2 7;door 1;door 3;open 1;pin 2 3;member 5 2 3 40;");
        due("11 read", x.read(), 7);
        due("11 digest", x.digest(), digestOf(4, 0, 19, 0, 2, 1, 1, 0, 0, 64, 4, 4, 7, 4, 1, 0, 3, 1, 2, 3, -1, 5, 2, 3, 40));
        due("11 THE TEXT stays", x.count(9), 64);
        due("11 nothing may be undone", x.undo(), NO);
        due("11 IMAGES stay", x.from(1), 1);
        due("11 from", x.count(0), 10);
    }

    private static void promise11Faults() {
        String[] texts = {"", "   ", "candle", "candle ", "candle 3", "candle 3  ", "candle 3;door", "candle 3;thick 1",
            "candle 3;member 1 1 1 1"};
        for (String text : texts) {
            due("11 ends too early: " + text, read(text), -10 - text.length());
        }
        due("11 a word that is none", read("candle 3; dor 1;"), -20);
        due("11 a word that is none, at the end", read("candle 3;doo"), -19);
        due("11 a longer word", read("candles 3;"), -10);
        due("11 a letter that is none", read("candle 3;Door 1;"), -19);
        due("11 a letter behind a word", read("candle 3;doorR 1;"), -23);
        due("11 candle again", read("candle 3;door 1;candle 3;"), -26);
        due("11 anything ahead of it", read("  door 1;candle 3;"), -12);
        due("11 ; ahead of it", read(";candle 3;"), -10);
        due("11 a number ahead of it", read("3;candle 3;"), -10);
        due("11 no ITEM", read("candle 3;;"), -19);
        due("11 a number too few", read("candle 3;thick 1;"), -26);
        due("11 a number too many", read("candle 3;thick 1 1 1;"), -29);
        due("11 a word for a number", read("candle three;"), -17);
        due("11 no ;", read("candle 3 door 1;"), -19);
        due("11 a third figure", read("candle 123;"), -17);
        due("11 a third figure, too early an end", read("candle 100"), -17);
        due("11 no number of one and of two", read("candle 3;thick 123;"), -25);
        due("11 a byte that begins none", read("candle -3;"), -17);
        due("11 a byte that begins none", read("candle 3;\n"), -19);
        due("11 a tab", read("\tcandle 3;"), -10);

        CandleHouse x = new CandleHouse();
        x.door(1);
        x.minute(1);
        type(x, "candle 3;door 2");
        long ahead = x.digest();
        due("11 a FAULT", x.read(), -25);
        due("11 changes nothing", x.digest(), ahead);
        due("11 is no STATUS", x.status(0) + x.status(1) + x.status(2), 0);
    }

    private static void promise11Refused() {
        due("11 candle 0", read("candle 0;"), -1000);
        due("11 candle 21", read("candle 21;thick 77 1;"), -1000);
        due("11 thick BAD", read("candle 2;thick 2 1;"), -1001);
        due("11 thick BAD", read("candle 2;thick 1 1;thick 1 10;"), -1002);
        due("11 door BAD", read("candle 2;door 4;"), -1001);
        due("11 open BAD", read("candle 2;door 1;open 1;"), -1002);
        due("11 open NO", read("candle 2;door 1;open 0;open 0;"), -1003);
        due("11 pin BAD", read("candle 2;pin 0 2;"), -1001);
        due("11 member BAD", read("candle 2;member 6 0 0 0;"), -1001);
        due("11 door FULL", read("candle 2;door 1;door 1;door 1;door 1;door 1;door 1;"), -1006);
        due("11 the first of two", read("candle 2;pin 0 2;door 9;"), -1001);
        due("11 a FAULT goes ahead", read("candle 2;pin 0 2;door"), -31);

        CandleHouse x = new CandleHouse();
        x.door(1);
        x.minute(1);
        type(x, "candle 3;door 2;open 0;open 0;");
        long ahead = x.digest();
        due("11 refused", x.read(), -1003);
        due("11 changes nothing", x.digest(), ahead);
        due("11 ITEMS are no STATUS", x.status(0) + x.status(1) + x.status(2), 0);
        due("11 MINUTES may be undone yet", x.undo(), 1);

        x.clear();
        x.minute(5);
        type(x, "candle 3;pin 0 0;");
        due("11 told anew: nothing is BURNT", x.read(), 2);
    }

    /** Nothing behind THE TEXT is looked at: neither bytes of an older one, nor the end of the room. */
    private static void promise11FullTexts() {
        CandleHouse x = new CandleHouse();
        type(x, "candle 12;");
        type(x, "candle 1");
        due("11 an older TEXT's figure", x.read(), -18);
        type(x, "candle 12;doors");
        type(x, "candle 12;door");
        due("11 an older TEXT's letter", x.read(), -24);
        type(x, "candle 1;");
        due("11 candle alone", x.read(), 1);
        due("11 candle alone is told", x.count(0), 1);
        String items = "candle 9;" + "door 1;".repeat(5) + "open 0;open 1;";
        String blanks = " ".repeat(149 - items.length());
        String[] ends = {" ", ";", "7", "x"};
        int[] due = {8, -159, -159, -159};
        for (int i = 0; i < ends.length; i++) {
            type(x, items + blanks + ends[i]);
            due("11 bytes", x.count(9), 150);
            due("11 no byte behind: " + ends[i], x.read(), due[i]);
        }
        type(x, items + blanks.substring(3) + "door");
        due("11 ends too early in no room", x.read(), -160);
        due("11 a word that is one but for its first letter", read("dandle 3;"), -10);
        due("11 a word that is one but for its last letter", read("candlf 3;"), -10);
        due("11 a word that is but begun", read("candl 3;"), -10);
    }

    private static void promise12() {
        CandleHouse x = new CandleHouse();
        int[] wrong = {0, -1, 21, MAX, MIN};
        for (int w : wrong) {
            due("12 minute(" + w + ")", x.minute(w), BAD);
        }
        due("12 minute(1)", x.minute(1), 1);
        due("12 minute(20)", x.minute(20), 21);
        due("12 MINUTES gone by", x.count(3), 21);
        due("12 may be undone", x.count(8), 12);
        due("12 no more than all wax", x.minute(20), 40);
        due("12 MINUTES go on", x.count(3), 41);
        x.minute(20);
        due("12 all wax", x.count(1), 40);

        CandleHouse y = told("candle 9;door 2;open 0;member 2 0 1 2;member 4 0 0 4;member 5 0 2 3;");
        int[] burnt = {3, 8, 13, 17, 20};
        for (int b : burnt) {
            due("12 by DRAUGHTS and BREATH", y.minute(1), b);
        }
    }

    /** What burns is 4 at first (0 drips), then 5 (1), 7 (2), 10 (3), and at last the 3 that are left. */
    private static void promise12Drips() {
        CandleHouse x = told("candle 8;door 3;open 0;member 2 0 1 4;member 5 0 2 4;member 5 0 3 5;member 2 0 3 4;");
        x.thick(7, 1);
        int[] burnt = {4, 9, 16, 26, 29};
        int[] owed = {0, 1, 3, 6, 6};
        for (int i = 0; i < burnt.length; i++) {
            due("12 BURNT", x.minute(1), burnt[i]);
            due("12 OWED", x.count(7), owed[i]);
        }
        x.minute(1);
        due("12 nothing burns, nothing drips", x.count(7), 6);
    }

    private static void promise13() {
        CandleHouse x = told("candle 10;door 3;open 0;door 3;open 1;");
        due("13 none", x.undo(), NO);
        due("13 at once", x.minute(3), 21);
        due("13 OWED", x.count(7), 6);
        x.open(1, false);
        x.pin(0, 9);
        x.member(0, 0, 0, 9);
        due("13 what is told leaves it", x.count(8), 3);
        due("13 undo", x.undo(), 1);
        dueCounts("13", x, 10, 14, 40, 2, 2, 1, 1, 4, 2);
        due("13 what is told stays", x.burns(0), 4);
        due("13 by the DOORS as they are", x.minute(1), 18);
        x.undo();
        x.undo();
        x.undo();
        dueCounts("13 at first", x, 10, 0, 40, 0, 2, 1, 1, 0, 0);
        due("13 no more", x.undo(), NO);
        x.minute(20);
        for (int i = 0; i < 12; i++) {
            due("13 twelve", x.undo(), 1);
        }
        due("13 no thirteenth", x.undo(), NO);
        due("13 MINUTES", x.count(3), 8);
        due("13 BURNT", x.count(1), 32);
        due("13 none counts as NO", x.status(1), 3);
    }

    /** 6 a MINUTE (1 drips), in 14 MINUTES; then the last twelve of them are undone one by one. */
    private static void promise13MoreThanTwelve() {
        CandleHouse x = told("candle 20;thick 19 9;thick 18 9;door 3;door 2;open 0;open 1;");
        x.minute(14);
        for (int left = 13; left >= 2; left--) {
            due("13 undo", x.undo(), 1);
            dueCounts("13 behind " + left, x, 20, 6 * left, 90, left, 2, 0, 0, left, left - 2);
        }
        due("13 no more", x.undo(), NO);
    }

    private static void promise14And15() {
        int[][] votes = {{1, 1}, {1, 0}, {1, 1}, {2, 2}, {1, 0}, {3, 3}};
        for (int kind = 0; kind < 6; kind++) {
            CandleHouse x = new CandleHouse();
            x.member(kind, 1, 10, 12);
            due("15 even " + kind, x.votes(1, 10), votes[kind][0]);
            due("15 odd " + kind, x.votes(1, 11), votes[kind][1]);
            due("15 not yet " + kind, x.votes(1, 9), 0);
            due("15 not any more " + kind, x.votes(1, 12), 0);
            due("15 another's " + kind, x.votes(0, 10), 0);
            due("14 even " + kind, x.house(10), 1);
            due("14 odd " + kind, x.house(11), votes[kind][1] > 0 ? 1 : NONE);
            due("14 none " + kind, x.house(12), NONE);
        }
        CandleHouse x = told("candle 5;member 0 2 0 9;member 0 2 1 9;member 3 1 2 9;member 5 0 4 6;member 0 1 4 99;");
        int[] house = {2, 2, 1, 1, 0, 0, 1};
        for (int i = 0; i < house.length; i++) {
            due("14 house(" + i + ")", x.house(i), house[i]);
        }
        due("14 the last MINUTE", x.house(98), 1);
        due("14 nobody", x.house(99), NONE);
        due("14 nobody", x.house(299), NONE);
        due("15 all of a PARTY's", x.votes(1, 4), 3);
        due("15 nobody", x.votes(1, 299), 0);
        x.minute(5);
        due("14 a MINUTE gone by", x.house(0), 2);
        int[] wrong = {-1, 300, MAX, MIN};
        for (int w : wrong) {
            due("14 house(" + w + ")", x.house(w), TEN);
            due("15 votes(0, " + w + ")", x.votes(0, w), BAD);
        }
        due("15 votes(-1, 0)", x.votes(-1, 0), BAD);
        due("15 votes(3, 0)", x.votes(3, 0), BAD);
        due("14 and 15 count as BAD", x.status(0), 10);
    }

    private static void promise16() {
        int[][] breath = {{0, 0}, {0, 0}, {1, 1}, {0, 0}, {0, 1}, {2, 2}};
        for (int kind = 0; kind < 6; kind++) {
            CandleHouse x = new CandleHouse();
            x.member(kind, 1, 10, 12);
            due("16 even " + kind, x.burns(10), 1 + breath[kind][0]);
            due("16 odd " + kind, x.burns(11), 1 + breath[kind][1]);
            due("16 not yet " + kind, x.burns(9), 1);
            due("16 not any more " + kind, x.burns(12), 1);
        }
        CandleHouse x = told("candle 1;door 2;door 3;door 1;open 0;open 1;");
        due("16 open DOORS", x.burns(0), 6);
        x.minute(20);
        due("16 whatever wax there is", x.burns(299), 6);
        int[] wrong = {-1, 300, MAX, MIN};
        for (int w : wrong) {
            due("16 burns(" + w + ")", x.burns(w), BAD);
        }
    }

    private static void promise17() {
        CandleHouse x = told("candle 3;pin 0 0;pin 0 1;pin 0 2;");
        due("17 in MINUTE 0 not yet", x.fallen(0), 0);
        x.minute(1);
        due("17 SLICE 0", x.fallen(0), 1);
        x.minute(2);
        due("17 SLICE 1 not yet", x.fallen(1), 0);
        x.minute(1);
        due("17 SLICE 1", x.fallen(1), 1);
        due("17 SLICE 2 not yet", x.fallen(2), 0);
        x.undo();
        due("17 undone", x.fallen(1), 0);
        x.minute(20);
        due("17 SLICE 2", x.fallen(2), 1);
        int[] wrong = {-1, 3, 9, MAX, MIN};
        for (int w : wrong) {
            due("17 fallen(" + w + ")", x.fallen(w), BAD);
        }
    }

    private static void promise18() {
        CandleHouse x = told("candle 3;thick 0 9;thick 1 9;pin 0 0;pin 0 1;pin 0 2;door 3;member 2 0 4 6;");
        due("18 SLICE 0", x.falls(0), 0);
        due("18 SLICE 1", x.falls(1), 6);
        due("18 SLICE 2", x.falls(2), 15);
        x.open(0, true);
        due("18 by the DOOR", x.falls(1), 2);
        due("18 by the DOOR", x.falls(2), 4);
        x.minute(1);
        due("18 it fell", x.falls(0), NONE);
        due("18 the same MINUTE", x.falls(1), 2);
        x.open(0, false);
        due("18 shut", x.falls(1), 4);
        x.minute(20);
        due("18 it fell", x.falls(2), NONE);
        int[] wrong = {-1, 3, MAX, MIN};
        for (int w : wrong) {
            due("18 falls(" + w + ")", x.falls(w), TEN);
        }
        CandleHouse y = new CandleHouse();
        y.candle(20);
        for (int i = 0; i < 20; i++) {
            y.thick(i, 9);
        }
        y.pin(0, 19);
        due("18 the latest of all", y.falls(0), 170);
    }

    private static void promise19() {
        CandleHouse x = told("candle 2;door 2;");
        due("19 out", x.out(), 7);
        x.open(0, true);
        due("19 out", x.out(), 2);
        due("19 changes nothing", x.count(1), 0);
        x.minute(2);
        due("19 out", x.out(), 2);
        x.minute(1);
        due("19 it burnt down", x.out(), NONE);
        due("19 NONE is not refused", x.status(0) + x.status(1) + x.status(2), 0);
        CandleHouse y = new CandleHouse();
        y.candle(20);
        for (int i = 0; i < 20; i++) {
            y.thick(i, 9);
        }
        due("19 the latest of all", y.out(), 179);
    }

    private static void promise20() {
        CandleHouse x = told("candle 4;pin 0 0;pin 0 1;pin 0 2;member 0 2 0 4;member 0 1 3 7;");
        due("20 SLICE 0", x.whose(0), 2);
        due("20 of like ones the least", x.whose(1), 1);
        due("20 nobody", x.whose(2), NONE);
        x.minute(1);
        due("20 it fell", x.whose(0), NONE);
        int[] wrong = {-1, 3, MAX, MIN};
        for (int w : wrong) {
            due("20 whose(" + w + ")", x.whose(w), TEN);
        }
    }

    private static void promise21() {
        CandleHouse x = told("candle 4;pin 0 0;pin 0 1;");
        due("21 one MINUTE", x.reads(9999, 99, 0), 99);
        due("21 four MINUTES", x.reads(9999, 99, 1), 396);
        due("21 w at most", x.reads(395, 99, 1), 395);
        due("21 w at most", x.reads(1, 1, 1), 1);
        x.minute(2);
        due("21 from now on", x.reads(9999, 10, 1), 20);
        due("21 it fell", x.reads(9, 9, 0), NONE);
        int[][] wrong = {{0, 1, 1}, {10000, 1, 1}, {1, 0, 1}, {1, 100, 1}, {1, 1, -1}, {1, 1, 2}, {MAX, MAX, MAX}};
        for (int[] w : wrong) {
            due("21 reads " + w[0] + " " + w[1] + " " + w[2], x.reads(w[0], w[1], w[2]), TEN);
        }
        CandleHouse y = new CandleHouse();
        y.candle(20);
        for (int i = 0; i < 20; i++) {
            y.thick(i, 9);
        }
        y.pin(0, 19);
        due("21 the most", y.reads(9999, 99, 0), 9999);
    }

    /** SLICES fall in MINUTES 0, 3, 7, 11, 15; PARTY 1 has the house in 6 .. 11, PARTY 0 in 0 .. 2, nobody later. */
    private static void promise22() {
        CandleHouse x = told("candle 5;member 0 0 0 3;member 3 1 6 12;");
        due("22 one", x.set(1, 1, 0), 1);
        due("22 the first SLICE", x.set(1, 1, 1), 2);
        due("22 no second", x.set(1, 1, 2), NONE);
        due("22 two", x.set(1, 2, 0), 2);
        due("22 both in one", x.set(1, 2, 1), 2);
        due("22 both in one", x.set(1, 2, 2), 2);
        due("22 SLICE 0", x.set(0, 2, 2), 0);
        due("22 none falls so", x.set(2, 2, 0), 0);
        due("22 the first of like ones", x.set(2, 2, 1), 0);
        due("22 the first of like ones", x.set(2, 2, 2), 0);
        x.minute(1);
        due("22 SLICE 0 is past", x.set(0, 2, 0), 0);
        due("22 the first that may be", x.set(0, 2, 1), 1);
        for (int i = 0; i < 9; i++) {
            x.pin(2, 4);
        }
        due("22 as if there were room", x.set(1, 2, 0), 2);
        x.minute(14);
        due("22 the last SLICE", x.set(1, 1, 1), 4);
        x.minute(1);
        for (int what = 0; what < 3; what++) {
            due("22 no such SLICE", x.set(1, 2, what), NONE);
        }
        int[][] wrong = {{-1, 1, 0}, {3, 1, 0}, {0, 0, 0}, {0, 3, 0}, {0, 1, -1}, {0, 1, 3}, {MAX, MAX, MAX}};
        for (int[] w : wrong) {
            due("22 set " + w[0] + " " + w[1] + " " + w[2], x.set(w[0], w[1], w[2]), TEN);
        }
    }

    /** 12 drops above the PIN: by 8 a MINUTE (1 and 1, 2, 1, 3) it falls in MINUTE 1, by 1 in 11. */
    private static void promise23() {
        CandleHouse x = told("candle 9;door 1;door 2;door 1;door 3;door 0;open 0;open 1;open 2;open 3;pin 0 3;");
        due("23 none need be", x.shut(0, 0), 0);
        due("23 by 8", x.shut(0, 1), 0);
        due("23 by 5: one, but not the least", x.shut(0, 2), 8);
        due("23 by 3: two", x.shut(0, 3), 10);
        due("23 by 2: three", x.shut(0, 5), 11);
        due("23 by 1: all that are open", x.shut(0, 6), 15);
        due("23 by 1: all that are open", x.shut(0, 11), 15);
        due("23 there are none", x.shut(0, 12), NONE);
        due("23 there are none", x.shut(0, 299), NONE);
        x.open(3, false);
        due("23 only those that are open", x.shut(0, 4), 3);
        due("23 the least of like ones", x.shut(0, 3), 2);
        due("23 none are shut by it", x.burns(0), 5);
        int[][] wrong = {{-1, 0}, {1, 0}, {0, -1}, {0, 300}, {MAX, MAX}};
        for (int[] w : wrong) {
            due("23 shut " + w[0] + " " + w[1], x.shut(w[0], w[1]), TEN);
        }
        x.minute(3);
        due("23 FALLEN", x.shut(0, 0), TEN);
        due("23 counts as BAD", x.status(0), 6);
    }

    /** 8 drops above PIN 0, 20 above PIN 1; DRAUGHTS 1, 2, 1: a MINUTE burns 1 .. 5. */
    private static void promise24And25() {
        CandleHouse x = told("candle 9;door 1;door 2;door 1;open 1;pin 0 2;pin 1 5;");
        due("25 none told: all sets", x.leaned(0), 8);
        due("25 none told: the least", x.leaned(1), 0);
        due("24 lean", x.lean(0, 2), NONE);
        due("25 3 a MINUTE: {1}, {0, 2}", x.leaned(0), 2);
        due("25 the least", x.leaned(1), 2);
        due("24 what was told", x.lean(0, 1), 2);
        due("25 4 or 5 a MINUTE", x.leaned(0), 3);
        due("25 the least", x.leaned(1), 3);
        due("24 another", x.lean(1, 3), NONE);
        due("25 5 a MINUTE", x.leaned(0), 1);
        due("25 the least", x.leaned(1), 7);
        x.lean(1, 2);
        due("25 no such set", x.leaned(0), 0);
        due("25 no such set", x.leaned(1), NONE);
        due("24 not told any more", x.lean(1, NONE), 2);
        due("24 not told", x.lean(1, 299), NONE);
        due("24 not told any more", x.lean(1, NONE), 299);
        due("25 DOORS are left as they are", x.burns(0), 3);
        x.minute(1);
        due("25 3 BURNT, 5 more in one MINUTE", x.leaned(0), 1);
        x.minute(2);
        due("25 it fell", x.leaned(0), 0);
        due("25 it fell", x.leaned(1), NONE);
        due("24 one that fell", x.lean(0, NONE), 1);
        int[][] wrong = {{-1, 0}, {2, 0}, {0, -2}, {0, 300}, {MAX, MAX}, {MIN, MIN}};
        for (int[] w : wrong) {
            due("24 lean " + w[0] + " " + w[1], x.lean(w[0], w[1]), TEN);
        }
        int[] wrongWhat = {-1, 2, MAX, MIN};
        for (int w : wrongWhat) {
            due("25 leaned(" + w + ")", x.leaned(w), TEN);
        }
        due("24 and 25 count as BAD", x.status(0), 10);
    }

    private static void promise26() {
        CandleHouse x = told("candle 9;member 5 0 4 10;member 1 1 0 99;member 3 2 6 8;");
        due("26 of all together", x.quorum(6, 60, 0), 1);
        due("26 the first", x.quorum(6, 60, 1), 6);
        due("26 more than there are", x.quorum(7, 60, 0), 0);
        due("26 none", x.quorum(7, 60, 1), NONE);
        due("26 3", x.quorum(3, 10, 0), 6);
        due("26 3", x.quorum(3, 5, 0), 1);
        due("26 3", x.quorum(3, 4, 0), 0);
        due("26 1", x.quorum(1, 60, 0), 33);
        due("26 no MINUTES", x.quorum(1, 0, 0), 0);
        due("26 no MINUTES", x.quorum(1, 0, 1), NONE);
        x.minute(7);
        due("26 from now on", x.quorum(4, 60, 0), 2);
        due("26 from now on", x.quorum(1, 60, 1), 7);
        due("26 the most", x.quorum(30, 60, 0), 0);
        int[][] wrong = {{0, 1, 0}, {31, 1, 0}, {1, -1, 0}, {1, 61, 0}, {1, 1, -1}, {1, 1, 2}, {MAX, MAX, MAX}};
        for (int[] w : wrong) {
            due("26 quorum " + w[0] + " " + w[1] + " " + w[2], x.quorum(w[0], w[1], w[2]), TEN);
        }
    }

    private static void promise27() {
        CandleHouse x = told("candle 9;thick 0 1;thick 1 3;thick 2 5;pin 0 0;pin 0 1;pin 0 3;door 1;");
        due("27 half: 1 at least", x.tallow(0, 0), 1);
        due("27 half of 1, cut up", x.tallow(1, 0), 1);
        due("27 1, 2, 3", x.tallow(2, 0), 6);
        due("27 twice", x.tallow(0, 1), 1);
        due("27 twice", x.tallow(1, 1), 2);
        due("27 twice", x.tallow(2, 1), 18);
        x.open(0, true);
        due("27 by the DOOR", x.tallow(2, 1), 9);
        due("27 by the DOOR", x.tallow(2, 0), 3);
        x.minute(4);
        due("27 what is BURNT stays", x.tallow(2, 1), 5);
        due("27 it would have fallen", x.tallow(2, 0), 1);
        due("27 it fell", x.tallow(1, 1), NONE);
        due("27 it fell", x.tallow(1, 0), NONE);
        int[][] wrong = {{-1, 0}, {3, 0}, {2, -1}, {2, 2}, {MAX, MAX}};
        for (int[] w : wrong) {
            due("27 tallow " + w[0] + " " + w[1], x.tallow(w[0], w[1]), TEN);
        }
        CandleHouse y = new CandleHouse();
        y.candle(20);
        for (int i = 0; i < 20; i++) {
            y.thick(i, 9);
        }
        y.thick(11, 1);
        y.pin(0, 12);
        due("27 behind 200", y.tallow(0, 1), 200);
        y.pin(0, 13);
        due("27 not within 200", y.tallow(1, 1), NONE);
        y.thick(11, 2);
        y.member(2, 0, 0, 1);
        due("27 behind 201", y.tallow(0, 1), NONE);
        y.member(2, 0, 1, 2);
        due("27 behind 200", y.tallow(0, 1), 200);
    }

    private static void promise28() {
        CandleHouse x = told("candle 5;door 3;");
        due("28 20 by 1, 20 by 1", x.race(4, 1), 2);
        due("28 20 by 1, 25 by 1", x.race(5, 1), 0);
        due("28 20 by 1, 15 by 1", x.race(3, 1), 1);
        due("28 20 by 1, 45 by 2", x.race(9, 2), 0);
        x.open(0, true);
        due("28 5 MINUTES, 45 by 9", x.race(9, 9), 2);
        due("28 5 MINUTES, 45 by 8 is 6", x.race(9, 8), 0);
        due("28 5 MINUTES, 5 by 1", x.race(1, 1), 2);
        due("28 5 MINUTES, 5 by 9", x.race(1, 9), 1);
        x.minute(4);
        due("28 1 MINUTE, 1 MINUTE", x.race(1, 9), 2);
        x.minute(1);
        due("28 this one is out", x.race(1, 9), 0);
        int[][] wrong = {{0, 1}, {10, 1}, {1, 0}, {1, 10}, {MAX, MAX}, {MIN, MIN}};
        for (int[] w : wrong) {
            due("28 race " + w[0] + " " + w[1], x.race(w[0], w[1]), BAD);
        }
    }

    /**
     * 4 drops are above each PIN: by 1 in MINUTE 3, by 2 in 1, by 4 or 5 in 0. PARTY 0 has the house in MINUTE 0 and 1,
     * PARTY 1 in 3, PARTY 2 never: PIN 0 pays PARTY 0 in 0 or 1, PIN 1 pays PARTY 1 in 3.
     */
    private static void promise29() {
        CandleHouse x = told("candle 3;door 1;door 3;door 0;door 0;pin 0 1;pin 1 1;member 0 0 0 2;member 0 1 3 5;");
        due("29 PARTY 0 opens, 1 can not help it", x.game(0, 0, 1, 1, 0), 2);
        due("29 the first", x.game(0, 0, 1, 1, 1), 10);
        due("29 the other way round", x.game(1, 1, 0, 0, 0), 2);
        due("29 the first", x.game(1, 1, 0, 0, 1), 1);
        due("29 DOORS without a DRAUGHT", x.game(0, 2, 1, 3, 0), 4);
        due("29 the first", x.game(0, 2, 1, 3, 1), 0);
        due("29 a third PARTY loses by either", x.game(2, 0, 1, 2, 0), 4);
        x.pin(1, 1);
        due("29 a third PARTY loses less so", x.game(2, 0, 1, 2, 0), 2);
        due("29 a third PARTY loses less so", x.game(2, 0, 1, 2, 1), 10);
        due("29 DOORS are left as they are", x.burns(0), 1);
        int[][] wrong = {{-1, 0, 1, 1, 0}, {3, 0, 1, 1, 0}, {0, -1, 1, 1, 0}, {0, 4, 1, 1, 0}, {0, 0, -1, 1, 0},
            {0, 0, 3, 1, 0}, {0, 0, 1, -1, 0}, {0, 0, 1, 4, 0}, {0, 0, 1, 1, -1}, {0, 0, 1, 1, 2}, {0, 0, 0, 1, 0},
            {0, 1, 1, 1, 0}, {MAX, MAX, MAX, MAX, MAX}};
        for (int[] w : wrong) {
            String call = "29 game " + w[0] + " " + w[1] + " " + w[2] + " " + w[3] + " " + w[4];
            due(call, x.game(w[0], w[1], w[2], w[3], w[4]), TEN);
        }
        due("29 counts as BAD", x.status(0), wrong.length);
        x.minute(20);
        due("29 none is left to fall", x.game(0, 0, 1, 1, 0), 4);
        due("29 none is left to fall", x.game(0, 0, 1, 1, 1), 0);

        CandleHouse y = told("candle 3;door 1;door 1;pin 0 1;pin 1 1;member 0 0 1 2;member 0 1 3 4;");
        due("29 2 or 3 a MINUTE, both in 1", y.game(0, 0, 1, 1, 0), 2);
        due("29 2 or 3 a MINUTE, both in 1", y.game(0, 0, 1, 1, 1), 10);
    }

    /** Each is the first question of its object, and hangs on BREATH: 4 drops above the PIN burn in MINUTES 0 and 1. */
    private static void promise29FirstOfAll() {
        String text = "candle 3;door 1;door 0;pin 0 1;member 5 0 1 2;member 0 1 2 9;";
        due("18 falls", told(text).falls(0), 1);
        due("19 out", told(text).out(), 9);
        due("20 whose", told(text).whose(0), 0);
        due("21 reads", told(text).reads(99, 5, 0), 10);
        due("22 set", told(text).set(0, 1, 1), 1);
        due("23 shut", told(text).shut(0, 1), 0);
        due("23 shut", told(text).shut(0, 2), NONE);
        CandleHouse x = told(text);
        x.lean(0, 1);
        due("25 leaned", x.leaned(0), 4);
        due("27 tallow", told(text).tallow(0, 1), 6);
        due("28 race", told(text).race(3, 1), 1);
        due("28 race", told(text).race(7, 2), 0);
        due("28 race", told(text).race(9, 3), 1);
        due("28 race", told(text).race(4, 1), 0);
        due("29 game", told(text).game(1, 0, 0, 1, 0), 4);
        due("29 game", told("candle 3;thick 0 3;door 1;door 0;pin 0 1;member 5 0 1 2;member 0 1 0 1;").game(0, 0, 1, 1, 0), 4);
    }

    private static void promise30() {
        CandleHouse x = told("candle 9;door 1;open 0;member 2 0 1 2;");
        due("30 no MINUTES", x.moths(0, 0, 5), 0);
        due("30 no moths", x.moths(3, 0, 5), 7);
        due("30 all moths", x.moths(60, 100, 5), 0);
        // SEED 0: X is 12345 (0), then 1406932606 (21468), 654583775 (9988), 1449466924 (22117).
        due("30 0 is less than 1", x.moths(1, 1, 0), 0);
        due("30 68 is not less than 68", x.moths(2, 68, 0), 3);
        due("30 68 is less than 69", x.moths(2, 69, 0), 0);
        due("30 88 is less than 89", x.moths(3, 89, 0), 0);
        due("30 17 is not less than 17", x.moths(4, 17, 0), 3 + 2 + 2);
        due("30 17 is less than 18", x.moths(4, 18, 0), 3 + 2);
        due("30 no more than all wax", x.moths(60, 0, 999999), 36);
        due("30 changes nothing", x.count(1), 0);
        x.minute(2);
        due("30 from now on", x.moths(3, 0, 5), 11);
        due("30 nothing burns", x.moths(3, 100, 5), 5);
        int[][] wrong = {{-1, 0, 0}, {61, 0, 0}, {0, -1, 0}, {0, 101, 0}, {0, 0, -1}, {0, 0, 1000000}, {MAX, MAX, MAX}};
        for (int[] w : wrong) {
            due("30 moths " + w[0] + " " + w[1] + " " + w[2], x.moths(w[0], w[1], w[2]), BAD);
        }
    }

    private static void promise31() {
        CandleHouse x = told("candle 10;thick 0 2;thick 1 3;door 3;door 3;open 0;open 1;");
        int[][] due = {{0, 0}, {1, 0}, {1, 2}, {2, 1}, {2, 3}};
        for (int[] d : due) {
            due("31 SLICES", x.loan(0), d[0]);
            due("31 left over", x.loan(1), d[1]);
            x.minute(1);
        }
        int[] wrong = {-1, 2, MAX, MIN};
        for (int w : wrong) {
            due("31 loan(" + w + ")", x.loan(w), BAD);
        }
    }

    private static void promise32And33() {
        CandleHouse x = told("candle 6;thick 5 9;door 3;open 0;door 2;pin 2 4;member 5 1 0 9;member 1 0 0 99;");
        x.lean(0, 44);
        due("33 none was kept", x.from(0), NO);
        due("33 none was kept", x.from(1), NO);
        x.minute(2);
        long first = x.digest();
        due("32 image", x.image(0), 1);
        due("32 changes nothing", x.digest(), first);
        x.minute(1);
        x.open(1, true);
        x.drop(0);
        x.drop(1);
        x.thick(5, 1);
        long second = x.digest();
        due("32 another", x.image(1), 1);
        x.candle(20);
        due("33 from", x.from(0), 1);
        due("33 all is as it was", x.digest(), first);
        due("33 MINUTES may be undone", x.undo(), 1);
        due("33 by what they were", x.count(1), 6);
        due("33 OWED as it was", x.count(7), 1);
        x.lean(0, 1);
        due("33 the IMAGE stays", x.from(0), 1);
        due("33 the IMAGE stays as it was", x.digest(), first);
        due("33 the other", x.from(1), 1);
        due("33 all is as it was", x.digest(), second);
        due("32 kept anew", x.image(0), 1);
        x.undo();
        x.from(0);
        due("33 the new one", x.digest(), second);

        x.clear();
        x.type(';');
        x.from(0);
        due("32 THE TEXT is not kept", x.count(9), 1);
        due("32 STATUS is not kept", x.status(1), 2);
        int[] wrong = {-1, 2, MAX, MIN};
        for (int w : wrong) {
            due("32 image(" + w + ")", x.image(w), BAD);
            due("33 from(" + w + ")", x.from(w), BAD);
        }
        x.from(1);
        due("32 STATUS is not kept", x.status(0), 8);
    }

    private static void promise34() {
        CandleHouse x = new CandleHouse();
        int[] wrong = {-1, 3, MAX, MIN};
        for (int i = 0; i < wrong.length; i++) {
            due("34 status(" + wrong[i] + ")", x.status(wrong[i]), -1);
            due("34 counts as BAD", x.status(0), i + 1);
        }
        x.house(300);
        x.falls(0);
        x.leaned(2);
        due("34 -10 counts as BAD", x.status(0), 7);
        x.undo();
        x.drop(0);
        due("34 NO", x.status(1), 2);
        for (int i = 0; i < 7; i++) {
            x.door(1);
        }
        due("34 FULL", x.status(2), 2);
        x.house(0);
        x.read();
        x.leaned(1);
        x.set(0, 1, 2);
        due("34 NONE and FAULTS are not refused", x.status(0) + x.status(1) + x.status(2), 11);
    }

    private static void promise35() {
        CandleHouse x = told("candle 7;thick 6 9;door 3;open 0;door 3;open 1;door 0;pin 0 0;pin 1 1;member 0 0 0 1;");
        x.minute(2);
        dueCounts("35", x, 7, 14, 33, 2, 3, 2, 1, 4, 2, 85);
        int[] wrong = {-1, 10, MAX, MIN};
        for (int w : wrong) {
            due("35 count(" + w + ")", x.count(w), BAD);
        }
        due("35 counts as BAD", x.status(0), 4);
    }

    private static void promise36() {
        CandleHouse x = told("candle 2;thick 1 9;door 3;open 0;door 2;pin 1 0;pin 2 1;member 4 2 7 3;member 0 1 0 99;");
        x.lean(1, 77);
        x.minute(1);
        long due = digestOf(2, 4, 13, 1, 2, 2, 2, 0, 1, 87, 4, 9, 3, 1, 2, 0, 1, 0, -1, 2, 1, 77, 4, 2, 7, 3, 0, 1, 0, 99);
        due("36 digest", x.digest(), due);
        x.status(9);
        due("36 STATUS is not in it", x.digest(), due);
        x.image(0);
        due("36 IMAGES are not in it", x.digest(), due);
    }
}
