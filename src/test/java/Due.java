/** What the tests share: the comparison of an answer with the one that is due, and texts as numbers for put(). */
final class Due {
    static final int NO_SUCH = -1, BAD_VALUE = -2, BAD_TEXT = -3, TOO_MANY = -4, NOT_POSSIBLE = -5, NONE = -6;

    private static int wrong = 0;

    private Due() {
    }

    static void is(String call, long got, long want) {
        if (got != want) {
            wrong++;
            System.out.println(call + " answered " + got + ", due is " + want);
        }
    }

    static void end() {
        System.out.println(wrong == 0 ? "all answers are as due" : wrong + " answers are not as due");
        if (wrong != 0) {
            System.exit(1);
        }
    }

    /** Up to 8 characters as put() wants them: the last one in the lowest bits. */
    static long packed(String text) {
        long number = 0;
        for (char c : text.toCharArray()) {
            number = number << 8 | c;
        }
        return number;
    }

    static void putAll(StrideBanks banks, String text) {
        for (int from = 0; from < text.length(); from += 8) {
            int to = Math.min(text.length(), from + 8);
            is("put of a part of " + text, banks.put(packed(text.substring(from, to))) > 0 ? 1 : 0, 1);
        }
    }

    static void stream(String when, StrideBanks banks, int stream, int... wanted) {
        for (int what = 0; what < wanted.length; what++) {
            is(when + ": stream(" + stream + ", " + what + ")", banks.stream(stream, what), wanted[what]);
        }
    }

    static void bank(String when, StrideBanks banks, int bank, int... wanted) {
        for (int what = 0; what < wanted.length; what++) {
            is(when + ": bank(" + bank + ", " + what + ")", banks.bank(bank, what), wanted[what]);
        }
    }

    static void counts(String when, StrideBanks banks, int... wanted) {
        for (int what = 0; what < wanted.length; what++) {
            is(when + ": count(" + what + ")", banks.count(what), wanted[what]);
        }
    }
}
