/** Promises 17 to 20 and the terms of texts, a test for each sentence that names a boundary. */
public final class TextBoundsTest {
    // Every number of every kind of order, with what stands ahead of it and behind it.
    private static final String[][] NUMBERS = {{"w0:", "#1"}, {"w1:", "#9999"}, {"w0:1#", ""}, {"w1:9999#", ";x"},
        {"r0.", ""}, {"r1.", "-"}, {"r0.", "-;m1"}, {"c0.", ""}, {"c1.", ";r0.0"}, {"m", ""}, {"m", ";m0"}, {"x;m", ""}};

    public static void main(String[] args) {
        putCodeRange();
        putOneToEight();
        putOrder();
        putZeroBits();
        putUpToEighty();
        wipeEdges();
        numbersInRange();
        digitAboveRange();
        leadingZeros();
        numberMissing();
        fileIsZeroOrOne();
        tooEarly();
        emptyText();
        firstWrongCharacter();
        faultOfEighty();
        carryOutStopsAtError();
        carryOutOrderLimits();
        carryOutBackwards();
        carryOutCountsAll();
        carryOutIsOneChange();
        carryOutEmptiesPad();
        carryOutWithFault();
        Check.end();
    }

    private static TapeEnds with(String text) {
        TapeEnds t = new TapeEnds();
        Check.put(t, text);
        return t;
    }

    private static void dueFault(String text, int want) {
        TapeEnds t = with(text);
        Check.due("fault of " + text, t.fault(), want);
        Check.due("fault of " + text + " again", t.fault(), want);
        Check.due("the length of " + text, t.count(10), text.length());
    }

    private static void putCodeRange() {
        Check.sentence("17: BAD_VALUE if a code is not 33 to 126");
        for (int place = 0; place < 8; place++) {
            for (int more = place; more < 8; more++) {
                long others = 0x4141414141414141L >>> 8 * (7 - more) & ~(255L << 8 * place);
                for (int code : new int[] {1, 31, 32, 33, 34, 125, 126, 127, 128, 255}) {
                    boolean right = code >= 33 && code <= 126;
                    long characters = others | (long) code << 8 * place;
                    Check.due("put(0x" + Long.toHexString(characters) + ")", new TapeEnds().put(characters),
                        right ? more + 1 : TapeEnds.BAD_VALUE);
                }
            }
        }
    }

    private static void putOneToEight() {
        Check.sentence("17: characters: 1 to 8 characters; BAD_VALUE if there is no character");
        TapeEnds t = new TapeEnds();
        Check.due("put of none", t.put(0), TapeEnds.BAD_VALUE);
        Check.due("put of 1", t.put('x'), 1);
        Check.due("put of 8", t.put(Check.number(";x;x;x;x")), 9);
        Check.due("put of 7", t.put(Check.number(";x;x;m1")), 16);
        Check.due("put of none again", t.put(0), TapeEnds.BAD_VALUE);
        Check.due("the length", t.count(10), 16);
        Check.due("no change", t.count(11), 0);
    }

    private static void putOrder() {
        Check.sentence("17: its lowest 8 bits are the last character, the next 8 bits the one before, and so on");
        TapeEnds t = new TapeEnds();
        t.put(((long) 'm' << 8 | '1') << 16 | '2' << 8 | '3');
        t.put(';');
        t.put(Check.number("w0:45#67"));
        Check.due("carryOut of m123;w0:45#67", t.carryOut(), 2);
        Check.due("the travel of both", t.count(8), 123 + 123 + 49);
        Check.due("the sum", t.ofBlock(0, 0, 1), 67);
    }

    private static void putZeroBits() {
        Check.sentence("17: 8 bits that are 0 mean that there are no more characters, and everything above has to be 0");
        for (int place = 0; place < 7; place++) {
            for (int bit = 8 * place + 8; bit < 64; bit++) {
                long below = place == 0 ? 0 : 0x4141414141414141L >>> 8 * (8 - place);
                long code = below | 1L << bit;
                Check.due("put(0x" + Long.toHexString(code) + ")", new TapeEnds().put(code), TapeEnds.BAD_VALUE);
            }
        }
    }

    private static void putUpToEighty() {
        Check.sentence("17: TOO_MANY if the pad would be longer than 80; Texts: at most 80 characters");
        for (int had = 72; had <= 80; had++) {
            for (int more = 1; more <= 8; more++) {
                TapeEnds t = with("x;".repeat(40).substring(0, had));
                boolean fine = had + more <= 80;
                long code = Check.number("44444444".substring(0, more));
                Check.due("put of " + more + " to " + had, t.put(code), fine ? had + more : TapeEnds.TOO_MANY);
                Check.due("the length", t.count(10), fine ? had + more : had);
            }
        }
        TapeEnds t = with("x;".repeat(40));
        Check.due("BAD_VALUE ahead of TOO_MANY", t.put(32), TapeEnds.BAD_VALUE);
        Check.due("no character ahead of TOO_MANY", t.put(0), TapeEnds.BAD_VALUE);
        t.wipe();
        Check.due("put after wipe", t.put(Check.number("12345678")), 8);
    }

    private static void wipeEdges() {
        Check.sentence("18: Empties the pad, and returns the length that it had");
        for (int size : new int[] {0, 1, 79, 80}) {
            TapeEnds t = with("x;".repeat(40).substring(0, size));
            Check.due("wipe of " + size, t.wipe(), size);
            Check.due("the length", t.count(10), 0);
            Check.due("the fault of none", t.fault(), 0);
            Check.due("wipe again", t.wipe(), 0);
            Check.due("no change", t.count(11), 0);
        }
    }

    private static void numbersInRange() {
        Check.sentence("Texts: A number is 0 to 9999; 19: NONE if there is none");
        for (String[] around : NUMBERS) {
            for (String number : new String[] {"0", "1", "9", "10", "99", "100", "999", "1000", "9998", "9999"}) {
                dueFault(around[0] + number + around[1], TapeEnds.NONE);
            }
        }
    }

    private static void digitAboveRange() {
        Check.sentence("Texts: (also of a digit by which a number would be above 9999)");
        for (String[] around : NUMBERS) {
            for (String number : new String[] {"10000", "10001", "99990", "99999", "12345", "123456789"}) {
                dueFault(around[0] + number + around[1], around[0].length() + 4);
            }
        }
    }

    private static void leadingZeros() {
        Check.sentence("Texts: without leading zeros");
        for (String[] around : NUMBERS) {
            for (String number : new String[] {"00", "01", "09", "000", "0123"}) {
                dueFault(around[0] + number + around[1], around[0].length() + 1);
            }
        }
    }

    private static void numberMissing() {
        Check.sentence("Texts: the index of the first character that cannot stand at its place (where a number has to be)");
        for (String[] around : NUMBERS) {
            for (char wrong : new char[] {'/', ':', ';', '-', '#', '.', 'a', 'x', '!', '~'}) {
                dueFault(around[0] + wrong + around[1], around[0].length());
            }
            dueFault(around[0], around[0].length());
        }
    }

    private static void fileIsZeroOrOne() {
        Check.sentence("Texts: file = \"0\" | \"1\"");
        String[][] orders = {{"w", ":1#2"}, {"r", ".1"}, {"r", ".1-"}, {"c", ".1"}};
        for (String[] order : orders) {
            dueFault(order[0] + "0" + order[1], TapeEnds.NONE);
            dueFault(order[0] + "1" + order[1], TapeEnds.NONE);
            for (String wrong : new String[] {"2", "9", "/", "x", ";", ""}) {
                dueFault(order[0] + wrong + order[1], 1);
            }
            dueFault(order[0] + "00" + order[1], 2);
            dueFault(order[0] + "10" + order[1], 2);
        }
    }

    private static void tooEarly() {
        Check.sentence("Texts: if there is none and the text ends too early, it is the length of the text");
        String[] whole = {"w0:1#", "w1:9999#", "r0.", "r1.", "c0.", "c1.", "m"};
        for (String text : whole) {
            for (int size = 1; size <= text.length(); size++) {
                String early = text.substring(0, size);
                // A number is at its end in any case, but behind it something has to stand in w.
                dueFault(early, size);
                dueFault("x;" + early, size + 2);
                dueFault("r1.9999-;" + early, size + 9);
            }
        }
        for (String text : new String[] {"x;", "m0;", "m9999;", "r0.0;", "r0.0-;", "c0.0;", "w0:0#0;", "x;x;"}) {
            dueFault(text, text.length());
        }
    }

    private static void emptyText() {
        Check.sentence("Texts: (also if it is empty), it is the length of the text");
        Check.due("fault of none", new TapeEnds().fault(), 0);
        TapeEnds t = with("m1");
        t.carryOut();
        Check.due("fault after carryOut", t.fault(), 0);
        Check.due("carryOut of none", t.carryOut(), TapeEnds.BAD_TEXT);
    }

    private static void firstWrongCharacter() {
        Check.sentence("Texts: The fault is the index of the first character that cannot stand at its place");
        String[] before = {"", "x;", "m9999;", "r0.0-;", "w1:99#9999;c1.20;"};
        String[] wrong = {"X", "W", ";", "0", "-", "a", "v", "y", "l", "n", "s", "!", "~"};
        for (String text : before) {
            for (String one : wrong) {
                dueFault(text + one, text.length());
                dueFault(text + one + ";x", text.length());
            }
        }
        String[][] behind = {{"x", "x0-.:#!"}, {"m0", "0-x.:#"}, {"m7", "-x.:#!"}, {"r0.0", "0#x.:"}, {"r0.7-", "-0"},
            {"c0.3", "-#x.:"}, {"w0:1", ".-;x:"}, {"w0:1#2", "#-x.:"}, {"w0", "0.;-#"}, {"r0", ":;0-#"}, {"c1", ":;1-#"}};
        for (String[] order : behind) {
            for (char one : order[1].toCharArray()) {
                dueFault(order[0] + one, order[0].length());
                dueFault("m5;" + order[0] + one + "m", order[0].length() + 3);
            }
        }
    }

    private static void faultOfEighty() {
        Check.sentence("Texts: The pad is a text of at most 80 characters (the fault at its last one, and behind it)");
        String forty = "x;".repeat(40);
        dueFault(forty, 80);
        dueFault(forty.substring(0, 79), TapeEnds.NONE);
        dueFault(forty.substring(0, 79) + "x", 79);
        dueFault(forty.substring(0, 78) + "m1", TapeEnds.NONE);
        dueFault(forty.substring(0, 78) + "m;", 79);
        dueFault(forty.substring(0, 78) + "r0", 80);
        dueFault(forty.substring(0, 74) + "m99999", 79);
    }

    private static void carryOutStopsAtError() {
        Check.sentence("20: up to the first one that returns an error; Returns how many orders were carried out");
        String[] errors = {"w0:0#1", "w1:100#1", "w0:99#1;w0:99#1;w0:99#1;w0:99#1;w0:99#1;w0:99#1", "r0.1", "r1.0",
            "r1.0-", "r0.9999", "c0.2", "c1.1", "c0.9999", "m601", "m9999"};
        for (String error : errors) {
            TapeEnds t = new TapeEnds();
            t.write(0, 5, 8);
            Check.put(t, "m7;" + error + ";m9");
            // Five blocks of 99 feet fit beside the one that is there.
            int fine = error.startsWith("w0:99") ? 6 : 1;
            Check.due("carryOut of m7;" + error + ";m9", t.carryOut(), fine);
            Check.due("the head after " + error, t.count(3), fine == 6 ? 9 + 5 * 103 : 7);
            Check.due("the pad", t.count(10), 0);
            Check.due("changes", t.count(11), 2);
        }
    }

    private static void carryOutOrderLimits() {
        Check.sentence("Texts: w: write(), r: read(), c: cut(), m: move(), x: rewind() (just in range)");
        TapeEnds t = with("m600;x;m300;x;m301;x;w0:1#0;w1:99#9999;r0.0;r1.0-;c0.1;c1.0;c0.0;m0");
        Check.due("carryOut", t.carryOut(), 14);
        Check.counts(t, "carryOut", 600, 10, 2, 0, 600, 0);
        int travel = 600 + 300 + 300 + 301 + 299 + (600 + 5) + (595 + 103) + (497 + 5) + (492 + 103) + 600;
        Check.due("the travel", t.count(8), travel);
        Check.due("reads", t.count(9), 2);
    }

    private static void carryOutBackwards() {
        Check.sentence("Texts: r: read() a block, backwards if \"-\" is told");
        String[] texts = {"r0.0", "r0.0-", "r0.0-;r0.0", "r0.0;r0.0-", "r0.0-;x;r0.0", "r1.0-;r0.0"};
        int[] heads = {9, 0, 9, 0, 9, 9};
        for (int i = 0; i < texts.length; i++) {
            TapeEnds t = new TapeEnds();
            t.write(0, 5, 5);
            t.write(1, 5, 5);
            Check.put(t, texts[i]);
            Check.due("carryOut of " + texts[i], t.carryOut(), texts[i].split(";").length);
            Check.due("the head after " + texts[i], t.count(3), heads[i]);
        }
    }

    private static void carryOutCountsAll() {
        Check.sentence("20: Carries the orders of the pad out, one after the other (40 of 80 characters, and 1)");
        TapeEnds t = with("x;".repeat(39) + "m1");
        Check.due("carryOut of 40 orders", t.carryOut(), 40);
        Check.due("the last one", t.count(3), 1);
        t = with("x;".repeat(38) + "m700");
        Check.due("carryOut up to the last one", t.carryOut(), 38);
        Check.put(t, "x");
        Check.due("carryOut of 1 order", t.carryOut(), 1);
    }

    private static void carryOutIsOneChange() {
        Check.sentence("20: This is a change (one, with all of them; also if none is carried out)");
        TapeEnds t = new TapeEnds();
        t.move(50);
        Check.put(t, "m9;w0:5#5;m600;x;c0.0");
        Check.due("carryOut of 5", t.carryOut(), 5);
        Check.due("one change", t.count(11), 2);
        Check.put(t, "m9999;x");
        Check.due("carryOut of none", t.carryOut(), 0);
        Check.due("a change as well", t.count(11), 3);
        Check.due("undo", t.undo(), 2);
        Check.due("the head as before", t.count(3), 600);
        Check.due("undo of all 5", t.undo(), 1);
        Check.due("the head as before all", t.count(3), 50);
        Check.due("the travel as before all", t.count(8), 50);
    }

    private static void carryOutEmptiesPad() {
        Check.sentence("20: and empties the pad");
        for (String text : new String[] {"x", "m9999", "x;m9999;x", "x;".repeat(39) + "x"}) {
            TapeEnds t = with(text);
            t.carryOut();
            Check.due("the length after " + text, t.count(10), 0);
            Check.due("wipe after " + text, t.wipe(), 0);
            t.undo();
            Check.due("the length after " + text + " and undo", t.count(10), 0);
        }
    }

    private static void carryOutWithFault() {
        Check.sentence("20: BAD_TEXT if the pad has a fault (then it stays)");
        for (String text : new String[] {"m5;m6;", "m5;m", "m5;X", "m5;m06", "m5;m10000"}) {
            TapeEnds t = with(text);
            Check.due("carryOut of " + text, t.carryOut(), TapeEnds.BAD_TEXT);
            Check.due("nothing was carried out", t.count(3), 0);
            Check.due("no change", t.count(11), 0);
            Check.due("the pad stays", t.count(10), text.length());
        }
        TapeEnds t = with("m5;m");
        t.carryOut();
        Check.put(t, "77");
        Check.due("carryOut when it is mended", t.carryOut(), 2);
        Check.due("the head", t.count(3), 77);
    }
}
