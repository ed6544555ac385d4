/** Promises 18 to 20: texts. */
public final class TextsTest {
    private static final int BAD_VALUE = Due.BAD_VALUE, TOO_MANY = Due.TOO_MANY, NONE = Due.NONE;

    public static void main(String[] args) {
        promise18PutChecks();
        promise18PutAppendsInOrder();
        promise18PutUpToSixty();
        promise19Wipe();
        promise20Faults();
        promise20FaultOfNumbers();
        noChanges();
        Due.end();
    }

    private static void promise18PutChecks() {
        StrideBanks x = new StrideBanks();
        Due.is("put(0)", x.put(0L), BAD_VALUE);
        Due.is("put(32)", x.put(32L), BAD_VALUE);
        Due.is("put(127)", x.put(127L), BAD_VALUE);
        Due.is("put(128)", x.put(128L), BAD_VALUE);
        Due.is("put(255)", x.put(255L), BAD_VALUE);
        Due.is("put(-1)", x.put(-1L), BAD_VALUE);
        Due.is("put(MIN)", x.put(Long.MIN_VALUE), BAD_VALUE);
        Due.is("put(MAX)", x.put(Long.MAX_VALUE), BAD_VALUE);
        Due.is("no character, but something above", x.put(0x3100L), BAD_VALUE);
        Due.is("a gap", x.put(0x310031L), BAD_VALUE);
        Due.is("a gap far up", x.put(0x3100313131313131L), BAD_VALUE);
        Due.is("a bit far above", x.put(0x0100000000000031L), BAD_VALUE);
        Due.is("a bad one ahead", x.put(0x2031L), BAD_VALUE);
        Due.is("a bad one behind", x.put(0x3120L), BAD_VALUE);
        Due.is("a bad one as the first of eight", x.put(0x7f31313131313131L), BAD_VALUE);
        Due.is("a bad one beyond bit 63", x.put(0x8031313131313131L), BAD_VALUE);
        Due.is("the pad is empty still", x.count(12), 0);
        Due.is("put(33)", x.put(33L), 1);
        Due.is("put(126)", x.put(126L), 2);
        Due.is("eight", x.put(0x7e21212121212121L), 10);
    }

    private static void promise18PutAppendsInOrder() {
        StrideBanks x = new StrideBanks();
        Due.is("put(\"12+3*4\")", x.put(Due.packed("12+3*4")), 6);
        Due.is("put(\"5\")", x.put(Due.packed("5")), 7);
        Due.is("put(\";678+90*\")", x.put(Due.packed(";678+90*")), 15);
        Due.is("put(\"1\")", x.put(Due.packed("1")), 16);
        Due.is("read()", x.read(), 2);
        Due.stream("first", x, 0, 12, 3, 45);
        Due.stream("second", x, 1, 678, 90, 1);
    }

    private static void promise18PutUpToSixty() {
        StrideBanks x = new StrideBanks();
        for (int i = 1; i <= 7; i++) {
            Due.is("put of eight", x.put(Due.packed("12345678")), 8 * i);
        }
        Due.is("five more", x.put(Due.packed("12345")), TOO_MANY);
        Due.is("a bad one goes ahead of too many", x.put(Due.packed("1234 ")), BAD_VALUE);
        Due.is("the length stays", x.count(12), 56);
        Due.is("four more", x.put(Due.packed("1234")), 60);
        Due.is("one more", x.put(Due.packed("1")), TOO_MANY);
        Due.is("wipe()", x.wipe(), 60);
        Due.is("put(\"1\")", x.put(Due.packed("1")), 1);
    }

    private static void promise19Wipe() {
        StrideBanks x = new StrideBanks();
        Due.is("wipe() of the empty pad", x.wipe(), 0);
        Due.putAll(x, "1+2*3");
        Due.is("wipe()", x.wipe(), 5);
        Due.is("the pad is empty", x.count(12), 0);
        Due.is("fault()", x.fault(), 0);
        Due.is("wipe() again", x.wipe(), 0);
        Due.putAll(x, "4+5*6");
        Due.is("read()", x.read(), 1);
        Due.stream("of the new text", x, 0, 4, 5, 6);
        Due.is("wipe() behind read()", x.wipe(), 0);
    }

    private static void promise20Faults() {
        fault("", 0);
        fault("0+0*1", NONE);
        fault("7", 1);
        fault("7+", 2);
        fault("7+7", 3);
        fault("7+7*", 4);
        fault("7+7*7", NONE);
        fault("7+7*7;", 6);
        fault("7+7*7;8", 7);
        fault("7+7*7;8+8*8", NONE);
        fault("+7*7", 0);
        fault("-7+7*7", 0);
        fault(";", 0);
        fault("7*7", 1);
        fault("7;7", 1);
        fault("7++7*7", 2);
        fault("7+*7", 2);
        fault("7+7+7", 3);
        fault("7+7;7", 3);
        fault("7+7**7", 4);
        fault("7+7*;", 4);
        fault("7+7*7+7", 5);
        fault("7+7*7*7", 5);
        fault("7+7*7,8+8*8", 5);
        fault("7+7*7;;8+8*8", 6);
        fault("7+7*7;8+8*8x", 11);
        fault("x", 0);
        fault("7/", 1);
        fault("7:", 1);
        fault("~", 0);
        fault("!", 0);
        fault("0+0*1;0+0*1;0+0*1;0+0*1;0+0*1", NONE);
        fault("1+1*1;2+2*2;3+3*3;4+4*4;5+5*5;6+6*6;7+7*7;8+8*8;9+9*9;1+1*1", NONE);
    }

    private static void promise20FaultOfNumbers() {
        fault("4095+1023*200", NONE);
        fault("4096+1*1", 3);
        fault("4100+1*1", 3);
        fault("410+1*1", NONE);
        fault("5000+1*1", 3);
        fault("999+1*1", NONE);
        fault("9999+1*1", 3);
        fault("12345+1*1", 4);
        fault("00+1*1", 1);
        fault("01+1*1", 1);
        fault("100+1*1", NONE);
        fault("1+1024*1", 5);
        fault("1+1030*1", 5);
        fault("1+103*1", NONE);
        fault("1+2000*1", 5);
        fault("1+10000*1", 6);
        fault("1+00*1", 3);
        fault("1+07*1", 3);
        fault("1+0*0", 4);
        fault("1+0*01", 4);
        fault("1+0*1", NONE);
        fault("1+0*10", NONE);
        fault("1+0*199", NONE);
        fault("1+0*201", 6);
        fault("1+0*210", 6);
        fault("1+0*300", 6);
        fault("1+0*1000", 7);
        fault("1+0*1;4096+", 9);
        fault("1+0*1;01", 7);
    }

    private static void fault(String text, int due) {
        StrideBanks x = new StrideBanks();
        Due.putAll(x, text);
        Due.is("fault() of " + text, x.fault(), due);
        Due.is("fault() again of " + text, x.fault(), due);
        Due.is("length of " + text, x.count(12), text.length());
    }

    private static void noChanges() {
        StrideBanks x = new StrideBanks();
        Due.putAll(x, "1+1*1");
        x.fault();
        x.wipe();
        Due.is("none recorded", x.count(13), 0);
    }
}
