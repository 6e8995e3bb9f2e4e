/** Promises 17 to 20: the pad, its fault, and carrying it out. */
public final class TextsTest {
    public static void main(String[] args) {
        put();
        putLimits();
        wipe();
        rightTexts();
        wrongTexts();
        carryOut();
        carryOutStops();
        carryOutOfEveryOrder();
        carryOutWithFault();
        Check.end();
    }

    private static void put() {
        TapeEnds t = new TapeEnds();
        Check.due("put(!)", t.put(33), 1);
        Check.due("put(~)", t.put(126), 2);
        Check.due("put(8 characters)", t.put(Check.number("12345678")), 10);
        Check.due("put(8 of the highest)", t.put(Check.number("~~~~~~~~")), 18);
        long[] wrong = {0, -1, 32, 127, 10, 128, 255, 256, 0x2000, 0x7800L << 8, 0x78007800L, 0x7800000000000078L,
            0x0100000000000078L, 0x7820L, 0x2078L, 0x7878787878787800L, 0x2078787878787878L, 0x7F78787878787878L,
            0xF878787878787878L, Long.MIN_VALUE, Long.MIN_VALUE | 0x78};
        for (long code : wrong) {
            Check.due("put(0x" + Long.toHexString(code) + ")", t.put(code), TapeEnds.BAD_VALUE);
        }
        Check.due("put, wrong: the length stays", t.count(10), 18);
        Check.due("put is no change", t.count(11), 0);
        t.wipe();
        Check.due("put(m1)", t.put(Check.number("m1")), 2);
        Check.due("put(2;x)", t.put(Check.number("2;x")), 5);
        Check.due("put: in their order", t.carryOut(), 2);
        Check.due("put: m12;x", t.count(8), 24);
    }

    private static void putLimits() {
        TapeEnds t = new TapeEnds();
        for (int i = 1; i <= 9; i++) {
            Check.due("put: 8 more", t.put(Check.number("x;x;x;x;")), 8 * i);
        }
        Check.due("put: 7 more", t.put(Check.number("x;x;x;x")), 79);
        Check.due("put: 2 more", t.put(Check.number(";x")), TapeEnds.TOO_MANY);
        Check.due("put: bad ahead of too many", t.put(Check.number(" x")), TapeEnds.BAD_VALUE);
        Check.due("put: fine with 79", t.fault(), TapeEnds.NONE);
        Check.due("put: 1 more", t.put(';'), 80);
        Check.due("put: 1 more than 80", t.put('x'), TapeEnds.TOO_MANY);
        Check.due("put: the length", t.count(10), 80);
        Check.due("put: ended too early", t.fault(), 80);
        t.wipe();
        for (int i = 1; i <= 10; i++) {
            t.put(Check.number(i < 10 ? "x;x;x;x;" : "x;x;x;m1"));
        }
        Check.due("put: 40 orders in 80 characters", t.carryOut(), 40);
        Check.due("put: the last of them", t.count(3), 1);
    }

    private static void wipe() {
        TapeEnds t = new TapeEnds();
        Check.due("wipe of none", t.wipe(), 0);
        Check.put(t, "m5;x;");
        Check.due("wipe", t.wipe(), 5);
        Check.due("wipe: the length", t.count(10), 0);
        Check.due("wipe again", t.wipe(), 0);
        Check.due("wipe is no change", t.count(11), 0);
        Check.put(t, "x");
        Check.due("put after wipe", t.fault(), TapeEnds.NONE);
    }

    private static void dueFault(String text, int want) {
        TapeEnds t = new TapeEnds();
        Check.put(t, text);
        Check.due("fault of " + text, t.fault(), want);
        Check.due("fault of " + text + ": the pad stays", t.count(10), text.length());
        if (want != TapeEnds.NONE) {
            Check.due("carryOut of " + text, t.carryOut(), TapeEnds.BAD_TEXT);
        }
    }

    private static void rightTexts() {
        String[] texts = {"x", "m0", "m9", "m10", "m9999", "x;x", "w0:0#0", "w1:9999#9999", "w0:40#17", "r0.0", "r1.0-",
            "r0.9999-", "c0.0", "c1.20", "r0.0-;x;m7;c1.0;w1:1#0;r1.19;x"};
        for (String text : texts) {
            dueFault(text, TapeEnds.NONE);
        }
    }

    private static void wrongTexts() {
        String[] early = {"", "w", "w0", "w1:", "w0:5", "w0:5#", "r", "r0", "r1.", "c", "c1", "c0.", "m", "x;", "r0.1-;",
            "m1234;"};
        for (String text : early) {
            dueFault(text, text.length());
        }
        String[] wrong = {"X", "0", ";", "-", "a", "xx", "x;;", "x-", "w2", "w:", "w0.", "w0:#", "w0:05", "w0:12345",
            "w0:1;", "w0:1-", "w0:1#x", "w0:1#00", "w0:1#12345", "w0:1#1-", "w0:1#1#", "r2", "r.", "r0:", "r0.-", "r0.01",
            "r0.10000", "r0.1--", "r0.1#", "r0.1-1", "c2", "c0:", "c0.-", "c0.1-", "c0.00", "c0.10000", "m-", "m;", "m01",
            "m10000", "m12345", "m1-", "m1x", "mx", "m1.", "m1:"};
        for (String text : wrong) {
            dueFault(text, text.length() - 1);
            dueFault(text + "x", text.length() - 1);
            dueFault("x;" + text, text.length() + 1);
        }
        dueFault("m1;m2;q;m3", 6);
        dueFault("m1;m;m3", 4);
    }

    private static void carryOut() {
        TapeEnds t = new TapeEnds();
        Check.put(t, "w0:40#17;w1:30#1234;r0.0-;r1.0;m100;x;c0.0");
        Check.due("carryOut", t.carryOut(), 7);
        Check.counts(t, "carryOut", 600, 10, 2, 0, 566, 1, 0, 0, 44 + 556 + 34 + 566 + 600 + 34 + 466 + 100, 2, 0, 1);
        Check.due("carryOut: data", t.ofBlock(1, 0, 0), 30);
        Check.due("carryOut: sum", t.ofBlock(1, 0, 1), 1234);
        Check.due("carryOut: undo", t.undo(), 0);
        Check.counts(t, "carryOut, undone", 600, 10, 2, 0, 600, 0, 0, 0, 0, 0, 0, 0);
    }

    private static void carryOutStops() {
        TapeEnds t = new TapeEnds();
        Check.put(t, "m5;m601;m9");
        Check.due("carryOut up to an error", t.carryOut(), 1);
        Check.due("carryOut: the head", t.count(3), 5);
        Check.due("carryOut: the pad is empty", t.count(10), 0);
        Check.due("carryOut: one change", t.count(11), 1);
        Check.put(t, "r0.0;m9");
        Check.due("carryOut: none is carried out", t.carryOut(), 0);
        Check.due("carryOut: the head stays", t.count(3), 5);
        Check.due("carryOut: the pad is empty again", t.count(10), 0);
        Check.due("carryOut: a change all the same", t.count(11), 2);
        Check.due("carryOut: undo", t.undo(), 1);
        Check.due("carryOut: nothing was different", t.count(3), 5);
    }

    private static void carryOutOfEveryOrder() {
        String[] errors = {"w0:0#0", "w1:100#1", "r0.1", "r1.0-", "r0.9999", "c0.2", "c1.1", "m601"};
        for (String text : errors) {
            TapeEnds t = new TapeEnds();
            t.write(0, 5, 8);
            Check.put(t, "x;" + text + ";x");
            Check.due("carryOut of x;" + text + ";x", t.carryOut(), 1);
        }
        TapeEnds t = new TapeEnds();
        t.write(0, 5, 8);
        t.move(0);
        Check.put(t, "r0.0");
        t.carryOut();
        Check.due("carryOut of r0.0 forwards", t.count(3), 9);
        Check.put(t, "r0.0-");
        t.carryOut();
        Check.due("carryOut of r0.0- backwards", t.count(3), 0);
        Check.put(t, "r0.0-;r0.0");
        t.carryOut();
        Check.due("carryOut: forwards after backwards", t.count(3), 9);
    }

    private static void carryOutWithFault() {
        TapeEnds t = new TapeEnds();
        String before = Check.state(t);
        Check.due("carryOut of none", t.carryOut(), TapeEnds.BAD_TEXT);
        Check.same("carryOut of none", Check.state(t), before);
        Check.put(t, "m5;m6;");
        before = Check.state(t);
        Check.due("carryOut with a fault", t.carryOut(), TapeEnds.BAD_TEXT);
        Check.same("carryOut with a fault", Check.state(t), before);
        Check.put(t, "m7");
        Check.due("carryOut when it is mended", t.carryOut(), 3);
    }
}
