/** The boundary cases of promises 18 to 20 and of Texts, a test for each sentence; the sentence stands above its test. */
public final class TextEdgesTest {
    private static final int BAD_VALUE = Due.BAD_VALUE, BAD_TEXT = Due.BAD_TEXT, TOO_MANY = Due.TOO_MANY,
        NONE = Due.NONE;
    private static final String SIXTY = "0+0*1;0+0*1;0+0*1;0+0*1;0+0*1;0+0*1;0+0*1;0+0*1;0+0*1;0+0*10";

    public static void main(String[] args) {
        putOfNoCharacter();
        putOfACodeTooSmall();
        putOfACodeTooGreat();
        putOfTheLeastAndTheGreatestCode();
        putOfABitAboveTheEnd();
        putOfOneAndOfEight();
        putOfTheLastCharacterLowest();
        putToAFullPad();
        putBeyondAFullPad();
        putOfABadCodeBeyondAFullPad();
        putIsNoChange();
        wipeOfAnEmptyPad();
        wipeOfAFullPad();
        wipeIsNoChange();
        faultOfAnEmptyPad();
        faultOfAFullPad();
        faultChangesNothing();
        faultOfEachCharacterAtEachPlace();
        faultOfATextThatEndsTooEarly();
        faultOfNumbersTooGreat();
        faultOfALengthOf0();
        faultOfLeadingZeros();
        faultOfTheLeastAndTheGreatestNumbers();
        faultIsTheFirstOne();
        Due.end();
    }

    /** Promise 18: "BAD_VALUE if there is no character". */
    private static void putOfNoCharacter() {
        Twins.refused("put(0)", Scenes::onTheWay, x -> x.put(0L), BAD_VALUE);
        Twins.refused("put(0) of a new store", Scenes::empty, x -> x.put(0L), BAD_VALUE);
    }

    /** Promise 18: "a code is not 33 to 126": below, at each place of each length. */
    private static void putOfACodeTooSmall() {
        for (int code : new int[] {1, 10, 31, 32}) {
            badCodes(code);
        }
    }

    /** Promise 18: "a code is not 33 to 126": above, at each place of each length. */
    private static void putOfACodeTooGreat() {
        for (int code : new int[] {127, 128, 200, 255}) {
            badCodes(code);
        }
    }

    private static void badCodes(int code) {
        for (int length = 1; length <= 8; length++) {
            long good = Due.packed("3+1*2;7+".substring(0, length));
            for (int place = 0; place < length; place++) {
                long bad = good & ~(255L << 8 * place) | (long) code << 8 * place;
                Due.is("put(" + bad + ")", new StrideBanks().put(bad), BAD_VALUE);
            }
        }
        Twins.refused("put(" + code + ")", Scenes::onTheWay, x -> x.put(code), BAD_VALUE);
        Twins.refused("put of it ahead of +9", Scenes::onTheWay, x -> x.put((long) code << 16 | 0x2b39), BAD_VALUE);
        Twins.refused("put of it behind +9", Scenes::onTheWay, x -> x.put(0x2b3900L | code), BAD_VALUE);
        Twins.refused("put of it as the first of eight", Scenes::onTheWay,
            x -> x.put((long) code << 56 | 0x2b2b2b2b2b2b2bL), BAD_VALUE);
    }

    /** Promise 18: "a code is not 33 to 126": 33 and 126 are taken, and each one between them. */
    private static void putOfTheLeastAndTheGreatestCode() {
        for (int code = 0; code < 256; code++) {
            boolean good = code >= 33 && code <= 126;
            Due.is("put(" + code + ")", new StrideBanks().put(code), good ? 1 : BAD_VALUE);
        }
        Due.is("eight of the least", new StrideBanks().put(0x2121212121212121L), 8);
        Due.is("eight of the greatest", new StrideBanks().put(0x7e7e7e7e7e7e7e7eL), 8);
    }

    /** Promise 18: "or a bit above 8 bits that are 0 is not 0". */
    private static void putOfABitAboveTheEnd() {
        for (int length = 0; length <= 6; length++) {
            long good = Due.packed("+9*8;7".substring(0, length));
            for (int bit = 8 * length + 8; bit < 64; bit++) {
                long bad = good | 1L << bit;
                Due.is("put(" + bad + ")", new StrideBanks().put(bad), BAD_VALUE);
            }
            Twins.refused("a character above the end", Scenes::onTheWay,
                x -> x.put(good | 0x3100000000000000L), BAD_VALUE);
            Twins.refused("the highest bit", Scenes::onTheWay, x -> x.put(good | Long.MIN_VALUE), BAD_VALUE);
        }
        Twins.refused("put(-1)", Scenes::onTheWay, x -> x.put(-1L), BAD_VALUE);
        Twins.refused("put(MAX)", Scenes::onTheWay, x -> x.put(Long.MAX_VALUE), BAD_VALUE);
        Twins.refused("put(MIN)", Scenes::onTheWay, x -> x.put(Long.MIN_VALUE), BAD_VALUE);
    }

    /** Promise 18: "1 to 8 characters", "Returns the length of the pad then". */
    private static void putOfOneAndOfEight() {
        StrideBanks x = new StrideBanks();
        int length = 0;
        for (int amount = 1; amount <= 8; amount++) {
            length += amount;
            Due.is("put of " + amount, x.put(Due.packed("!!!!!!!!".substring(0, amount))), length);
            Due.is("length", x.count(12), length);
        }
    }

    /** Promise 18: "its lowest 8 bits are the last character, the next 8 bits the one before, and so on". */
    private static void putOfTheLastCharacterLowest() {
        StrideBanks x = new StrideBanks();
        Due.is("put of eight", x.put(0x31322b33342a3536L), 8);
        Due.is("put of one", x.put(0x3bL), 9);
        Due.is("put of five", x.put(0x372b382a39L), 14);
        Due.is("read()", x.read(), 2);
        Due.stream("12+34*56", x, 0, 12, 34, 56);
        Due.stream("7+8*9", x, 1, 7, 8, 9);
    }

    /** Promise 18: "TOO_MANY if the pad would be longer than 60": 60 is not longer. */
    private static void putToAFullPad() {
        for (int last = 1; last <= 8; last++) {
            StrideBanks x = Scenes.with(SIXTY.substring(0, 60 - last));
            Due.is("put of the last " + last, x.put(Due.packed(SIXTY.substring(60 - last))), 60);
            Due.is("fault()", x.fault(), NONE);
            Due.is("one more", x.put('1'), TOO_MANY);
        }
    }

    /** Promise 18: "TOO_MANY if the pad would be longer than 60". */
    private static void putBeyondAFullPad() {
        for (int amount = 1; amount <= 8; amount++) {
            long characters = Due.packed(";7+7*7;7".substring(0, amount));
            for (int room = 0; room < amount; room++) {
                String there = SIXTY.substring(0, 60 - room);
                Twins.refused("put of " + amount + " where there is room for " + room, () -> Scenes.with(there),
                    x -> x.put(characters), TOO_MANY);
            }
        }
    }

    /** Conventions: BAD_VALUE ahead of TOO_MANY. */
    private static void putOfABadCodeBeyondAFullPad() {
        Twins.refused("put(0)", () -> Scenes.with(SIXTY), x -> x.put(0L), BAD_VALUE);
        Twins.refused("put(32)", () -> Scenes.with(SIXTY), x -> x.put(32L), BAD_VALUE);
        Twins.refused("put(127)", () -> Scenes.with(SIXTY), x -> x.put(127L), BAD_VALUE);
        Twins.refused("put(0x310031)", () -> Scenes.with(SIXTY), x -> x.put(0x310031L), BAD_VALUE);
    }

    /** Promises 18 and 21: put() is not called a change, so that it can't be undone. */
    private static void putIsNoChange() {
        StrideBanks x = Scenes.of(1, 1, 1);
        Due.is("put('1')", x.put('1'), 1);
        Due.is("recorded", x.count(13), 1);
        Due.is("undo() of add()", x.undo(), 0);
        Due.is("the pad stays", x.count(12), 1);
    }

    /** Promise 19: "returns the length that it had": 0. */
    private static void wipeOfAnEmptyPad() {
        Due.is("wipe() of a new store", new StrideBanks().wipe(), 0);
        StrideBanks x = Scenes.with("1+1*1");
        x.read();
        Due.is("wipe() behind read()", x.wipe(), 0);
        Twins.unchanged("wipe() of an empty pad", Scenes::late, StrideBanks::wipe);
    }

    /** Promise 19: "returns the length that it had": 60. */
    private static void wipeOfAFullPad() {
        StrideBanks x = Scenes.with(SIXTY);
        Due.is("wipe()", x.wipe(), 60);
        Due.is("length", x.count(12), 0);
        Due.is("fault()", x.fault(), 0);
        Due.is("wipe() again", x.wipe(), 0);
        Due.putAll(x, SIXTY);
        Due.is("full again", x.count(12), 60);
    }

    /** Promises 19 and 21: wipe() is not called a change; the pad's old text is not met again. */
    private static void wipeIsNoChange() {
        StrideBanks x = Scenes.of(1, 1, 1);
        Due.putAll(x, "7+7*7;8+8*8");
        x.wipe();
        Due.is("recorded", x.count(13), 1);
        Due.putAll(x, "9+9*9");
        Due.is("fault()", x.fault(), NONE);
        Due.is("read()", x.read(), 2);
        Due.stream("the new text alone", x, 1, 9, 9, 9);
    }

    /** Texts: "if there is none and the text ends too early (also if it is empty), it is the length of the text". */
    private static void faultOfAnEmptyPad() {
        Due.is("fault() of a new store", new StrideBanks().fault(), 0);
        StrideBanks x = Scenes.with("1+1*1");
        x.wipe();
        Due.is("fault() behind wipe()", x.fault(), 0);
    }

    /** Promise 20 for 60 characters: a fault at the last one, an end too early, and none. */
    private static void faultOfAFullPad() {
        fault(SIXTY, NONE);
        fault(SIXTY.substring(0, 59) + "x", 59);
        fault(SIXTY.substring(0, 59) + ";", 60);
        fault(SIXTY.substring(0, 54) + "4095+1", 60);
        fault(SIXTY.substring(0, 54) + "1+102*", 60);
        fault("x" + SIXTY.substring(1), 0);
        fault("123456789012345678901234567890123456789012345678901234567890", 4);
        fault("************************************************************", 0);
    }

    /** Promise 20, asked for any text. */
    private static void faultChangesNothing() {
        Twins.unchanged("fault() of an end too early", Scenes::onTheWay, StrideBanks::fault);
        Twins.unchanged("fault() of none", Scenes::full, StrideBanks::fault);
        Twins.unchanged("fault() of an empty pad", Scenes::empty, StrideBanks::fault);
        Twins.unchanged("fault() of a full pad", () -> Scenes.with(SIXTY), StrideBanks::fault);
        Twins.unchanged("fault() of a fault", () -> Scenes.with("1+1x"), StrideBanks::fault);
    }

    /** Texts: "The fault is the index of the first character that cannot stand at its place". */
    private static void faultOfEachCharacterAtEachPlace() {
        place("", "0123456789");
        place("0", "+");
        place("7", "0123456789+");
        place("40", "0123456789+");
        place("41", "0123456789+");
        place("99", "0123456789+");
        place("399", "0123456789+");
        place("409", "012345+");
        place("410", "+");
        place("999", "+");
        place("1000", "+");
        place("4095", "+");
        place("7+", "0123456789");
        place("7+0", "*");
        place("7+9", "0123456789*");
        place("7+10", "0123456789*");
        place("7+101", "0123456789*");
        place("7+102", "0123*");
        place("7+103", "*");
        place("7+999", "*");
        place("7+1000", "*");
        place("7+1023", "*");
        place("7+1*", "123456789");
        place("7+1*1", "0123456789;");
        place("7+1*9", "0123456789;");
        place("7+1*19", "0123456789;");
        place("7+1*20", "0;");
        place("7+1*21", ";");
        place("7+1*99", ";");
        place("7+1*100", ";");
        place("7+1*200", ";");
        place("7+1*1;", "0123456789");
        place("7+1*1;0", "+");
        place("7+1*1;409", "012345+");
        place("7+1*1;7+1*", "123456789");
        place("7+1*1;7+1*20", "0;");
    }

    private static void place(String ahead, String fitting) {
        boolean inLength = ahead.lastIndexOf('*') > ahead.lastIndexOf(';');
        for (char c = 33; c <= 126; c++) {
            boolean fits = fitting.indexOf(c) >= 0;
            boolean whole = inLength && c != ';';
            fault(ahead + c, !fits ? ahead.length() : whole ? NONE : ahead.length() + 1);
        }
    }

    /** Texts: "ends too early": each beginning of a text that is no text itself. */
    private static void faultOfATextThatEndsTooEarly() {
        String text = "4095+1023*200;0+0*1";
        for (int length = 0; length <= text.length(); length++) {
            boolean whole = length >= 11 && length <= 13 || length == 19;
            fault(text.substring(0, length), whole ? NONE : length);
        }
    }

    /** Texts: "also of a digit by which a number would be too great". */
    private static void faultOfNumbersTooGreat() {
        fault("4096+1*1", 3);
        fault("4100+1*1", 3);
        fault("9999+1*1", 3);
        fault("40950+1*1", 4);
        fault("10000+1*1", 4);
        fault("1+1024*1", 5);
        fault("1+1100*1", 5);
        fault("1+9999*1", 5);
        fault("1+10230*1", 6);
        fault("1+1*201", 6);
        fault("1+1*210", 6);
        fault("1+1*999", 6);
        fault("1+1*2000", 7);
        fault("1+1*1000", 7);
        fault("1+1*1;1+1*999999999999999999999999999999999", 12);
        fault("999999999999999999999999999999", 3);
        fault("1+99999999999999999999999999", 5);
    }

    /** Texts: "a length 1 to 200, without leading zeros": a 0 cannot stand at its first place. */
    private static void faultOfALengthOf0() {
        fault("1+1*0", 4);
        fault("1+1*01", 4);
        fault("1+1*1;1+1*0", 10);
        fault("1+1*10", NONE);
        fault("1+1*100", NONE);
    }

    /** Texts: "without leading zeros"; 0 alone is a number. */
    private static void faultOfLeadingZeros() {
        fault("00+1*1", 1);
        fault("07+1*1", 1);
        fault("1+00*1", 3);
        fault("1+07*1", 3);
        fault("1+1*07", 4);
        fault("0+0*1", NONE);
        fault("10+10*10", NONE);
        fault("1+1*1;00+1*1", 7);
    }

    /** Texts: "a start is a number from 0 to 4095, a stride 0 to 1023, a length 1 to 200": both ends of each. */
    private static void faultOfTheLeastAndTheGreatestNumbers() {
        String[] texts = {"0+0*1", "4095+0*1", "0+1023*1", "0+0*200", "4095+1023*200"};
        int[][] numbers = {{0, 0, 1}, {4095, 0, 1}, {0, 1023, 1}, {0, 0, 200}, {4095, 1023, 200}};
        for (int i = 0; i < texts.length; i++) {
            StrideBanks x = Scenes.with(texts[i]);
            Due.is("fault() of " + texts[i], x.fault(), NONE);
            Due.is("read() of " + texts[i], x.read(), 1);
            Due.stream(texts[i], x, 0, numbers[i]);
        }
    }

    /** Texts: "the first character that cannot stand ...; if there is none and the text ends too early". */
    private static void faultIsTheFirstOne() {
        fault("x+y*z", 0);
        fault("1+y*z", 2);
        fault("1+1*z", 4);
        fault("1+1*1x;x", 5);
        fault("4096+1024*201", 3);
        fault("1+1*1;;", 6);
        fault("1+1*0;1", 4);
    }

    private static void fault(String text, int due) {
        StrideBanks x = Scenes.with(text);
        Due.is("fault() of " + text, x.fault(), due);
        Due.is("read() of " + text + " is refused", x.read() == BAD_TEXT ? 1 : 0, due == NONE ? 0 : 1);
    }
}
