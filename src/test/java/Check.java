/** Counts wrong answers and ends a test program with the exit code that .ci/run looks at. */
final class Check {
    private static final int MOST_TOLD = 20;
    private static int wrong = 0;
    private static String sentence = "";

    private Check() {
    }

    /** The words of the document that the checks from here on hold; what is wrong is told with them. */
    static void sentence(String words) {
        sentence = words;
    }

    static void due(String call, long got, long want) {
        if (got != want) {
            tell(call + " answered " + got + ", due is " + want);
        }
    }

    static void tell(String fault) {
        wrong++;
        if (wrong <= MOST_TOLD) {
            System.out.println(sentence.isEmpty() ? fault : "[" + sentence + "] " + fault);
        }
    }

    static boolean anyWrong() {
        return wrong > 0;
    }

    static void end() {
        if (wrong > 0) {
            System.out.println(wrong + " answers are not as due");
            System.exit(1);
        }
    }

    /** The number by which put() is given a text of 1 to 8 characters. */
    static long number(String text) {
        long number = 0;
        for (int i = 0; i < text.length(); i++) {
            number = number << 8 | text.charAt(i);
        }
        return number;
    }

    /** Puts a text of any length that the pad holds. */
    static void put(TapeEnds tape, String text) {
        for (int from = 0; from < text.length(); from += 8) {
            tape.put(number(text.substring(from, Math.min(text.length(), from + 8))));
        }
    }

    static void counts(TapeEnds tape, String when, int... wants) {
        for (int what = 0; what < wants.length; what++) {
            due(when + ": count(" + what + ")", tape.count(what), wants[what]);
        }
    }

    /** All that can be asked of a tape, as a text to compare before and after what should not change it. */
    static String state(TapeEnds tape) {
        StringBuilder state = new StringBuilder();
        for (int what = 0; what <= 11; what++) {
            state.append(tape.count(what)).append(' ');
        }
        for (int file = 0; file < 2; file++) {
            for (int what = 0; what <= 4; what++) {
                state.append(tape.ofFile(file, what)).append(' ');
            }
            for (int block = 0; block < tape.ofFile(file, 0); block++) {
                for (int what = 0; what <= 7; what++) {
                    state.append(tape.ofBlock(file, block, what)).append(' ');
                }
            }
        }
        return state.append(tape.fault()).toString();
    }

    static void same(String what, String got, String want) {
        if (!got.equals(want)) {
            tell(what + ": the state is\n  " + got + "\ndue is\n  " + want);
        }
    }
}
