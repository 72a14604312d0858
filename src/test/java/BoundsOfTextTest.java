import java.util.ArrayList;
import java.util.List;
import java.util.regex.Matcher;
import java.util.regex.Pattern;

/** Promises 9 to 11, THE TEXT: each sentence that names a bound, at the bound and on either side of it. */
public final class BoundsOfTextTest {
    private static final int BAD = CandleHouse.BAD, NO = CandleHouse.NO, FULL = CandleHouse.FULL;
    private static final int ROOM = 150;
    private static final Due DUE = new Due("BoundsOfTextTest");
    private static final Watch WATCH = new Watch(DUE);
    /** Each ITEM once; each call's greatest numbers. */
    private static final String ALL_ITEMS = "candle 20;thick 19 9;door 3;open 0;pin 2 19;member 5 2 99 99;";
    private static final Pattern TOKENS = Pattern.compile("[a-z]+|[0-9]+|[^ ]", Pattern.DOTALL);

    public static void main(String[] args) {
        bytesOfAllSorts();
        bytesUpToRoom();
        clearAtAnyLength();
        endsTooEarly();
        everyBeginning();
        candleOnceAndFirst();
        eachEndedByStop();
        wordsThatAreNone();
        oneOrTwoFigures();
        blanksBetween();
        bytesThatBeginNone();
        faultsAtTheEnds();
        everyByteReplaced();
        refusedItemsOfCandle();
        refusedItemsOfDoors();
        refusedItemsOfPinsAndMembers();
        theFirstRefusedItem();
        faultsGoAheadOfRefusedItems();
        toldAnewByTheseAlone();
        DUE.end();
    }

    /** Of all sorts, with MINUTES that may be undone and an IMAGE; its TEXT is the one told. */
    private static CandleHouse busy(String text) {
        CandleHouse x = new CandleHouse();
        x.door(3);
        x.open(0, true);
        x.pin(1, 4);
        x.lean(0, 9);
        x.member(2, 1, 0, 9);
        x.image(0);
        x.minute(2);
        Watch.type(x, text);
        return x;
    }

    /** THE TEXT is not told: the answer says why, and nothing changes, not even STATUS. */
    private static void unread(String text, int answer) {
        WATCH.asked("11 read: " + text, () -> busy(text), CandleHouse::read, answer);
    }

    private static void fault(String text, int place) {
        unread(text, -10 - place);
    }

    private static void refusedItem(String text, int item) {
        unread(text, -1000 - item);
    }

    private static void items(String text, int items) {
        CandleHouse x = busy(text);
        DUE.is("11 read: " + text, x.read(), items);
        WATCH.same("11 status behind it: " + text, Watch.statuses(x), new long[3]);
        DUE.is("11 told anew: " + text, x.count(3), 0);
        DUE.is("11 THE TEXT stays: " + text, x.count(9), text.length());
    }

    /** "A byte (0 .. 127)". */
    private static void bytesOfAllSorts() {
        int[] wrong = {-1, -128, 128, 255, 256, 256 + 'c'};
        for (int c : wrong) {
            WATCH.refused("9 type(" + c + ")", () -> busy("candle 3;"), x -> x.type(c), BAD, Watch.AS_BAD);
        }
        int[] right = {0, 1, 31, 32, 126, 127};
        for (int c : right) {
            WATCH.done("9 type(" + c + ")", () -> busy("candle 3;"), x -> x.type(c), 10, 10, 10, 40, 2, 1, 1, 1, 2, 2, 10);
        }
    }

    /** "150 bytes at most", "FULL". */
    private static void bytesUpToRoom() {
        WATCH.done("9 the first", () -> busy(""), x -> x.type('c'), 1, 10, 10, 40, 2, 1, 1, 1, 2, 2, 1);
        for (int length = 148; length < ROOM; length++) {
            String text = "x".repeat(length);
            WATCH.done("9 behind " + length, () -> busy(text), x -> x.type('c'), length + 1, 10, 10, 40, 2, 1, 1, 1, 2, 2, length + 1);
        }
        String full = "candle 3;" + " ".repeat(ROOM - 9);
        WATCH.refused("9 behind 150", () -> busy(full), x -> x.type(';'), FULL, Watch.AS_FULL);
        WATCH.refused("9 behind 150", () -> busy(full), x -> x.type(0), FULL, Watch.AS_FULL);
        WATCH.refused("9 behind 150", () -> busy(full), x -> x.type(127), FULL, Watch.AS_FULL);
        WATCH.refused("9 BAD goes ahead of FULL", () -> busy(full), x -> x.type(128), BAD, Watch.AS_BAD);
        WATCH.refused("9 BAD goes ahead of FULL", () -> busy(full), x -> x.type(-1), BAD, Watch.AS_BAD);
        CandleHouse x = busy(full);
        x.type(';');
        x.clear();
        DUE.is("9 room again", x.type('c'), 1);
    }

    /** "THE TEXT is empty: how many it had." */
    private static void clearAtAnyLength() {
        int[] lengths = {0, 1, 149, 150};
        for (int length : lengths) {
            WATCH.done("10 of " + length, () -> busy("y".repeat(length)), CandleHouse::clear, length, 10, 10, 40, 2, 1, 1, 1, 2, 2, 0);
        }
        CandleHouse x = busy("candle 3;");
        x.clear();
        DUE.is("10 it is empty", x.clear(), 0);
        DUE.is("10 an empty one is read", x.read(), -10);
    }

    /** "the TEXT's length, if it ends too early (an empty one, too)". */
    private static void endsTooEarly() {
        String[] texts = {"", " ", "  ", "candle", "candle ", "candle 3", "candle 3 ", "candle 3;thick", "candle 3;thick 1",
            "candle 3;thick 1 1", "candle 3;door", "candle 3;door 1", "candle 3;open", "candle 3;open 1", "candle 3;pin",
            "candle 3;pin 1", "candle 3;pin 1 1", "candle 3;member", "candle 3;member 1", "candle 3;member 1 1",
            "candle 3;member 1 1 1", "candle 3;member 1 1 1 1"};
        for (String text : texts) {
            fault(text, text.length());
        }
        String[] ended = {"candle 3;", "candle 3;thick 1 1;", "candle 3;door 1;", "candle 3;pin 1 1;", "candle 3;member 1 1 1 1;"};
        for (String text : ended) {
            items(text, text.length() == 9 ? 1 : 2);
        }
    }

    /** Each beginning of a TEXT: told, if it ends behind a ; (and blanks); a word cut within is none; else too early. */
    private static void everyBeginning() {
        for (int length = 0; length <= ALL_ITEMS.length(); length++) {
            String text = ALL_ITEMS.substring(0, length);
            int items = text.length() - text.replace(";", "").length();
            boolean cut = length > 0 && length < ALL_ITEMS.length() && isLetter(length - 1) && isLetter(length);
            if (text.endsWith(";")) {
                items(text, items);
            } else {
                fault(text, cut ? text.lastIndexOf(';') + 1 : length);
            }
        }
    }

    private static boolean isLetter(int place) {
        return Character.isLetter(ALL_ITEMS.charAt(place));
    }

    /** "candle n (once, first of all)", "candle again, anything ahead of it". */
    private static void candleOnceAndFirst() {
        fault("thick 0 1;candle 3;", 0);
        fault("door 1;candle 3;", 0);
        fault("  open 0;candle 3;", 2);
        fault("pin 0 0;candle 3;", 0);
        fault("member 0 0 0 0;", 0);
        fault("7 candle 3;", 0);
        fault(" ;candle 3;", 1);
        fault("candle 3;candle 3;", 9);
        fault("candle 3;door 1; candle 4;", 17);
        fault("candle 3;candle", 9);
        fault("candle candle 3;", 7);
        fault("candle 3 candle;", 9);
        items("candle 1;", 1);
        items("candle 20;", 1);
    }

    /** "ITEMS, each ended by ;". */
    private static void eachEndedByStop() {
        fault("candle 3 door 1;", 9);
        fault("candle 3;;", 9);
        fault("candle 3; ;door 1;", 10);
        fault("candle;", 6);
        fault("candle 3;thick;", 14);
        fault("candle 3;thick 1;", 16);
        fault("candle 3;thick 1 1 1;", 19);
        fault("candle 3;door;", 13);
        fault("candle 3;door 1 1;", 16);
        fault("candle 3;open 0 1;", 16);
        fault("candle 3;pin 1;", 14);
        fault("candle 3;pin 1 1 1;", 17);
        fault("candle 3;member 1 1 1;", 21);
        fault("candle 3;member 1 1 1 1 1;", 24);
        fault("candle 3;3;", 9);
    }

    /** "a word that is none": too short, too long, of other letters; the words are none in other places. */
    private static void wordsThatAreNone() {
        String[] words = {"candle", "thick", "door", "open", "pin", "member"};
        for (int i = 1; i < words.length; i++) {
            String word = words[i];
            String last = word.substring(0, word.length() - 1);
            fault("candle 3;" + last + " 1;", 9);
            fault("candle 3;" + word + "s 1;", 9);
            fault("candle 3;" + last + "z 1;", 9);
            fault("candle 3;z" + word.substring(1) + " 1;", 9);
            fault("candle 3;" + word + word + " 1;", 9);
            fault("candle " + word + ";", 7);
            fault("candle 3;door " + word + ";", 14);
        }
        fault("candl 3;", 0);
        fault("candles 3;", 0);
        fault("a", 0);
        fault("z 1;", 0);
        fault("candle 3;a", 9);
        fault("x".repeat(ROOM), 0);
    }

    /** "figures (1 or 2 are one number)", "a third figure's number". */
    private static void oneOrTwoFigures() {
        items("candle 9;", 1);
        items("candle 09;", 1);
        items("candle 10;", 1);
        fault("candle 009;", 7);
        fault("candle 100;", 7);
        fault("candle 1000;", 7);
        fault("candle 999999999999999999;", 7);
        fault("candle 010", 7);
        fault("candle 1 0;", 9);
        items("candle 3;member 05 02 00 99;", 2);
        fault("candle 3;member 005 2 0 99;", 16);
        fault("candle 3;member 5 002 0 99;", 18);
        fault("candle 3;member 5 2 000 99;", 20);
        fault("candle 3;member 5 2 0 099;", 22);
        fault("candle 3;member 5 2 0 100;", 22);
        fault("candle 3;member 5 2 0 9 100;", 24);
        fault("candle 3;thick 123;", 15);
        fault("candle 3;123;", 9);
        fault("123 candle;", 0);
    }

    /** "blanks (32) between": none, one, more; ahead and behind. */
    private static void blanksBetween() {
        items("candle3;", 1);
        items("candle 3 ;", 1);
        items(" candle  3  ; ", 1);
        items("candle3;door1;open0;pin2 2;member5 2 0 99;", 5);
        items("candle 3;" + " ".repeat(ROOM - 9), 1);
        items(" ".repeat(ROOM - 9) + "candle 3;", 1);
        fault(" ".repeat(ROOM), ROOM);
        fault("can dle 3;", 0);
        fault("candle 3; do or 1;", 10);
        fault("candle 1 2;", 9);
        fault("candle 3;pin22;", 14);
    }

    /** "a byte that begins none": those beside letters, figures, the ; and the blank, and the outermost. */
    private static void bytesThatBeginNone() {
        int[] bytes = {0, 1, 9, 10, 13, 31, 33, 47, 58, 60, 64, 65, 90, 95, 96, 123, 126, 127};
        for (int c : bytes) {
            String odd = String.valueOf((char) c);
            fault(odd, 0);
            fault(odd + "candle 3;", 0);
            fault("candle" + odd + "3;", 6);
            fault("candle " + odd + ";", 7);
            fault("candle 3" + odd + ";", 8);
            fault("candle 3;" + odd, 9);
            fault("candle 3; door 1;" + odd + odd, 17);
        }
    }

    /** "the place of the first byte": from 0 to 149, and the length 150. */
    private static void faultsAtTheEnds() {
        String blanks = " ".repeat(ROOM - 10);
        fault("candle 3;" + blanks + "!", 149);
        fault("candle 3;" + blanks + ";", 149);
        fault("candle 3;" + blanks + "7", 149);
        fault("candle 3;" + blanks + "d", 149);
        fault("candle 3;" + blanks.substring(3) + "door", 150);
        fault("candle 3;" + blanks.substring(4) + "doors", 145);
        fault("candle 3;" + blanks.substring(5) + "door 1", 150);
        items("candle 3;" + blanks.substring(6) + "door 1;", 2);
        fault("candle 3;" + blanks.substring(6) + "door 12", 150);
        fault("candle 3;" + blanks.substring(6) + "door123", 147);
    }

    /** One byte of a TEXT is each of all bytes: what is due is told by another reader. */
    private static void everyByteReplaced() {
        for (int place = 0; place < ALL_ITEMS.length(); place++) {
            for (int c = 0; c < 128; c++) {
                StringBuilder text = new StringBuilder(ALL_ITEMS);
                text.setCharAt(place, (char) c);
                CandleHouse x = Watch.typed(text.toString());
                CandleHouse y = Watch.typed(text.toString());
                DUE.is("11 byte " + place + " is " + c, x.read(), tell(text.toString(), y));
                DUE.is("11 byte " + place + " is " + c + ": digest", x.digest(), y.digest());
            }
        }
    }

    /** What read should answer; tells the items to a house by their calls, if there is no fault. */
    private static int tell(String text, CandleHouse house) {
        List<String> tokens = new ArrayList<>();
        List<Integer> places = new ArrayList<>();
        Matcher m = TOKENS.matcher(text);
        while (m.find()) {
            tokens.add(m.group());
            places.add(m.start());
        }
        places.add(text.length());
        List<List<Integer>> items = new ArrayList<>();
        List<String> words = List.of("candle", "thick", "door", "open", "pin", "member");
        int[] numbers = {1, 2, 1, 1, 2, 4};
        int at = 0;
        do {
            List<Integer> item = new ArrayList<>();
            int word = at < tokens.size() ? words.indexOf(tokens.get(at)) : -1;
            if (word < 0 || (word == 0) != items.isEmpty()) {
                return -10 - places.get(at);
            }
            item.add(word);
            at++;
            for (int i = 0; i < numbers[word]; i++, at++) {
                if (at == tokens.size() || !tokens.get(at).matches("[0-9]{1,2}")) {
                    return -10 - places.get(at);
                }
                item.add(Integer.parseInt(tokens.get(at)));
            }
            if (at == tokens.size() || !tokens.get(at).equals(";")) {
                return -10 - places.get(at);
            }
            at++;
            items.add(item);
        } while (at < tokens.size());
        return tellItems(items, house);
    }

    private static int tellItems(List<List<Integer>> items, CandleHouse house) {
        house.image(0);
        for (int i = 0; i < items.size(); i++) {
            if (tellItem(items.get(i), house) < 0) {
                house.from(0);
                return -1000 - i;
            }
        }
        return items.size();
    }

    private static int tellItem(List<Integer> item, CandleHouse house) {
        switch (item.get(0)) {
            case 0: return house.candle(item.get(1));
            case 1: return house.thick(item.get(1), item.get(2));
            case 2: return house.door(item.get(1));
            case 3: return house.open(item.get(1), true);
            case 4: return house.pin(item.get(1), item.get(2));
            default: return house.member(item.get(1), item.get(2), item.get(3), item.get(4));
        }
    }

    /** "the first ITEM (0 on) that is refused (as its call is)": candle and thick. */
    private static void refusedItemsOfCandle() {
        refusedItem("candle 0;", 0);
        refusedItem("candle 00;", 0);
        items("candle 1;", 1);
        items("candle 20;", 1);
        refusedItem("candle 21;", 0);
        refusedItem("candle 99;", 0);
        items("candle 7;thick 0 1;thick 6 9;", 3);
        refusedItem("candle 7;thick 7 4;", 1);
        refusedItem("candle 7;thick 0 0;", 1);
        refusedItem("candle 7;thick 0 10;", 1);
        items("candle 1;thick 0 9;thick 0 1;", 3);
        refusedItem("candle 1;thick 1 9;", 1);
        items("candle 20;thick 19 9;", 2);
        refusedItem("candle 20;thick 20 9;", 1);
    }

    /** As their calls are: door (BAD, FULL), open (BAD, NO). */
    private static void refusedItemsOfDoors() {
        items("candle 7;door 0;door 3;", 3);
        refusedItem("candle 7;door 4;", 1);
        String five = "candle 7;door 1;door 1;door 1;door 1;door 1;";
        items(five, 6);
        refusedItem(five + "door 1;", 6);
        items(five + "open 4;", 7);
        refusedItem(five + "open 5;", 6);
        refusedItem("candle 7;open 0;", 1);
        items("candle 7;door 0;open 0;", 3);
        refusedItem("candle 7;door 0;open 1;", 2);
        refusedItem("candle 7;door 0;open 0;open 0;", 3);
        refusedItem("candle 7;open 0;door 0;", 1);
    }

    /** As their calls are: pin (BAD, FULL; none has fallen yet), member (BAD, FULL). */
    private static void refusedItemsOfPinsAndMembers() {
        items("candle 7;pin 0 0;pin 2 6;", 3);
        refusedItem("candle 7;pin 3 0;", 1);
        refusedItem("candle 7;pin 0 7;", 1);
        String nine = "candle 7;" + "pin 2 0;".repeat(9);
        items(nine, 10);
        refusedItem(nine + "pin 2 0;", 10);
        refusedItem(nine + "pin 2 7;", 10);
        items("candle 7;member 0 0 0 0;member 5 2 99 99;", 3);
        refusedItem("candle 7;member 6 0 0 0;", 1);
        refusedItem("candle 7;member 0 3 0 0;", 1);
        String six = "candle 7;" + "member 1 1 1 1;".repeat(6);
        items(six, 7);
        refusedItem(six + "member 1 1 1 1;", 7);
    }

    /** "-1000 less the number of the first ITEM that is refused". */
    private static void theFirstRefusedItem() {
        refusedItem("candle 0;thick 0 1;", 0);
        refusedItem("candle 21;door 4;", 0);
        refusedItem("candle 2;door 4;door 4;", 1);
        refusedItem("candle 2;door 3;door 4;pin 9 9;", 2);
        String most = "candle2;" + "open9;".repeat(23);
        refusedItem(most, 1);
        String doors = "candle2;door1;door1;door1;door1;door1;" + "open0;".repeat(18);
        refusedItem(doors, 7);
        refusedItem("candle 2;" + "pin 0 0;".repeat(9) + "member 0 0 0 0;open 0;", 11);
    }

    /** "A CHAMBER without a FAULT is told". */
    private static void faultsGoAheadOfRefusedItems() {
        fault("candle 0;door", 13);
        fault("candle 21;x", 10);
        fault("candle 3;door 4;door 123;", 21);
        fault("candle 3;open 0;candle 3;", 16);
        refusedItem("candle 3;open 0;door 1;", 1);
    }

    /** "told anew by these alone, in their order". */
    private static void toldAnewByTheseAlone() {
        CandleHouse x = busy("candle 2;");
        x.minute(20);
        DUE.is("11 read", x.read(), 1);
        WATCH.counts("11 candle alone", x, 2, 0, 8, 0, 0, 0, 0, 0, 0, 9);
        DUE.is("11 none may be undone", x.undo(), NO);
        DUE.is("11 the IMAGE is kept", x.from(0), 1);
        WATCH.counts("11 the IMAGE", x, 10, 0, 40, 0, 1, 1, 1, 0, 0, 9);
        DUE.is("11 again", x.read(), 1);
        WATCH.counts("11 again", x, 2, 0, 8, 0, 0, 0, 0, 0, 0, 9);

        CandleHouse y = busy("candle 3;thick 0 9;thick 0 2;door 1;door 3;open 1;open 0;pin 1 2;pin 2 0;");
        y.minute(5);
        y.read();
        DUE.is("11 SLICE 0 is to come", y.falls(1), 0);
        DUE.is("11 the later THICK", y.thick(0, 2), 2);
        DUE.is("11 in their order", y.falls(0), 1);
        DUE.is("11 PINS are not told", y.lean(0, 5), -1);
    }
}
