/**
 * "A method that fails returns one of the error codes ...; it names its errors in the order in which they are checked,
 * and the first one that applies is returned. A call that returns an error changes nothing."
 * Every error of every method, just outside the range and far outside it, and with every error that it goes ahead of.
 */
public final class RefusalTest {
    private static final int LEAST = Integer.MIN_VALUE;
    private static final int MOST = Integer.MAX_VALUE;
    private static final int[] NO_FILES = {-1, 2, LEAST, MOST};

    public static void main(String[] args) {
        length();
        tune();
        write();
        writeFurther();
        cut();
        move();
        readNoSuch();
        readBadValue();
        spliceBadValue();
        spliceNotPossible();
        spliceTooMany();
        ofFile();
        ofBlock();
        oneArgument();
        nearest();
        put();
        carryOut();
        undo();
        slots();
        Check.end();
    }

    private static void empty(TapeEnds t) {
        t.length(600);
    }

    /**
     * 296 feet, GAP 7, MARK 3: the file 0 at 0 to 36 with its data at 3 to 33, the file 1 at 250 to 296 with its data
     * at 253 to 293; both slots are in use, 6 states in the history, an order in the pad.
     */
    private static void rich(TapeEnds t) {
        t.length(300);
        t.tune(7, 3);
        t.write(0, 30, 700);
        t.write(1, 40, 8000);
        t.save(0);
        t.read(0, 0, 0);
        t.splice(100, 3);
        t.save(1);
        t.move(33);
        Check.put(t, "m5;x");
    }

    /** The file 0 has 20 blocks, and the gap is just GAP. */
    private static void full(TapeEnds t) {
        t.length(110);
        for (int block = 0; block < 20; block++) {
            t.write(0, 1, block);
        }
    }

    /** 64 feet after 9 splices; the file 0 at 0 to 14 with its data at 1 to 13; the gap is just GAP, 50 feet. */
    private static void spliced(TapeEnds t) {
        t.length(100);
        t.tune(50, 1);
        t.write(0, 28, 9);
        t.splice(40, 19);
        for (int i = 0; i < 8; i++) {
            t.splice(1, 1);
        }
    }

    private static void refused(String name, Twins.Calls ready, Twins.Call call, int error) {
        Twins.changesNothing(name, ready, call, error);
    }

    private static void length() {
        Check.sentence("length: BAD_VALUE if feet is out of range (also ahead of NOT_POSSIBLE)");
        for (int feet : new int[] {99, 2001, 0, -1, -600, LEAST, MOST}) {
            refused("length(" + feet + ")", RefusalTest::empty, t -> t.length(feet), TapeEnds.BAD_VALUE);
            refused("length(" + feet + ") with blocks", RefusalTest::rich, t -> t.length(feet), TapeEnds.BAD_VALUE);
        }
        Check.sentence("length: NOT_POSSIBLE if a file has a block, or there was a splice");
        for (int feet : new int[] {100, 600, 2000}) {
            for (int file = 0; file < 2; file++) {
                int one = file;
                refused("length(" + feet + ") with a block in the file " + file, t -> t.write(one, 1, 0),
                    t -> t.length(feet), TapeEnds.NOT_POSSIBLE);
            }
            refused("length(" + feet + ") with a splice", t -> t.splice(0, 1), t -> t.length(feet),
                TapeEnds.NOT_POSSIBLE);
            refused("length(" + feet + ") with blocks and splices", RefusalTest::spliced, t -> t.length(feet),
                TapeEnds.NOT_POSSIBLE);
        }
    }

    private static void tune() {
        Check.sentence("tune: BAD_VALUE if an argument is out of range (also ahead of NOT_POSSIBLE)");
        for (int gap : new int[] {0, 100, -1, LEAST, MOST}) {
            refused("tune(" + gap + ", 2)", RefusalTest::rich, t -> t.tune(gap, 2), TapeEnds.BAD_VALUE);
            refused("tune(" + gap + ", 9)", RefusalTest::full, t -> t.tune(gap, 9), TapeEnds.BAD_VALUE);
        }
        for (int mark : new int[] {0, 10, -1, LEAST, MOST}) {
            refused("tune(10, " + mark + ")", RefusalTest::rich, t -> t.tune(10, mark), TapeEnds.BAD_VALUE);
            refused("tune(99, " + mark + ")", RefusalTest::full, t -> t.tune(99, mark), TapeEnds.BAD_VALUE);
        }
        Check.sentence("tune: NOT_POSSIBLE if the gap is less than that now");
        refused("tune(11, 1) with a gap of 10", RefusalTest::full, t -> t.tune(11, 1), TapeEnds.NOT_POSSIBLE);
        refused("tune(99, 1) with a gap of 10", RefusalTest::full, t -> t.tune(99, 1), TapeEnds.NOT_POSSIBLE);
        refused("tune(51, 2) with a gap of 50", RefusalTest::spliced, t -> t.tune(51, 2), TapeEnds.NOT_POSSIBLE);
    }

    private static void write() {
        Check.sentence("write: NO_SUCH if there is no such file (ahead of all others)");
        for (int file : NO_FILES) {
            refused("write(" + file + ", 1, 0)", RefusalTest::rich, t -> t.write(file, 1, 0), TapeEnds.NO_SUCH);
            refused("write(" + file + ", 0, 0)", RefusalTest::rich, t -> t.write(file, 0, 0), TapeEnds.NO_SUCH);
            refused("write(" + file + ", 1, -1)", RefusalTest::full, t -> t.write(file, 1, -1), TapeEnds.NO_SUCH);
        }
        Check.sentence("write: BAD_VALUE if data or sum is out of range (ahead of TOO_MANY and NOT_POSSIBLE)");
        for (int file = 0; file < 2; file++) {
            int one = file;
            for (int data : new int[] {0, 100, -1, LEAST, MOST}) {
                String call = "write(" + file + ", " + data + ", 0)";
                refused(call, RefusalTest::rich, t -> t.write(one, data, 0), TapeEnds.BAD_VALUE);
                refused(call, RefusalTest::full, t -> t.write(one, data, 0), TapeEnds.BAD_VALUE);
            }
            for (int sum : new int[] {-1, 10000, LEAST, MOST}) {
                String call = "write(" + file + ", 1, " + sum + ")";
                refused(call, RefusalTest::rich, t -> t.write(one, 1, sum), TapeEnds.BAD_VALUE);
                refused(call, RefusalTest::full, t -> t.write(one, 1, sum), TapeEnds.BAD_VALUE);
            }
        }
    }

    private static void writeFurther() {
        Check.sentence("write: TOO_MANY if the file has 20 blocks (also ahead of NOT_POSSIBLE)");
        refused("write(0, 1, 0), full", RefusalTest::full, t -> t.write(0, 1, 0), TapeEnds.TOO_MANY);
        refused("write(0, 99, 0), full", RefusalTest::full, t -> t.write(0, 99, 0), TapeEnds.TOO_MANY);
        for (int file = 0; file < 2; file++) {
            int one = file;
            refused("write(" + file + ", 1, 0) as the 21st, with room", t -> {
                for (int block = 0; block < 20; block++) {
                    t.write(one, 1, 0);
                }
            }, t -> t.write(one, 1, 0), TapeEnds.TOO_MANY);
        }
        Check.sentence("write: NOT_POSSIBLE if the gap would be less than GAP");
        refused("write(1, 1, 0), full", RefusalTest::full, t -> t.write(1, 1, 0), TapeEnds.NOT_POSSIBLE);
        for (int file = 0; file < 2; file++) {
            int one = file;
            refused("write(" + file + ", 1, 0), gap just GAP", RefusalTest::spliced, t -> t.write(one, 1, 0),
                TapeEnds.NOT_POSSIBLE);
            refused("write(" + file + ", 87, 0) to 100 feet", t -> t.length(100), t -> t.write(one, 87, 0),
                TapeEnds.NOT_POSSIBLE);
            refused("write(" + file + ", 99, 0) to 100 feet", t -> t.length(100), t -> t.write(one, 99, 0),
                TapeEnds.NOT_POSSIBLE);
        }
    }

    private static void cut() {
        Check.sentence("cut: NO_SUCH if there is no such file (ahead of BAD_VALUE and NOT_POSSIBLE)");
        for (int file : NO_FILES) {
            refused("cut(" + file + ", 0)", RefusalTest::rich, t -> t.cut(file, 0), TapeEnds.NO_SUCH);
            refused("cut(" + file + ", -1)", RefusalTest::rich, t -> t.cut(file, -1), TapeEnds.NO_SUCH);
            refused("cut(" + file + ", 99)", RefusalTest::rich, t -> t.cut(file, 99), TapeEnds.NO_SUCH);
        }
        for (int file = 0; file < 2; file++) {
            int one = file;
            Check.sentence("cut: BAD_VALUE if blocks is below 0");
            refused("cut(" + file + ", -1)", RefusalTest::rich, t -> t.cut(one, -1), TapeEnds.BAD_VALUE);
            refused("cut(" + file + ", least)", RefusalTest::rich, t -> t.cut(one, LEAST), TapeEnds.BAD_VALUE);
            Check.sentence("cut: NOT_POSSIBLE if the file has fewer");
            refused("cut(" + file + ", 2) of 1", RefusalTest::rich, t -> t.cut(one, 2), TapeEnds.NOT_POSSIBLE);
            refused("cut(" + file + ", 1) of 0", RefusalTest::empty, t -> t.cut(one, 1), TapeEnds.NOT_POSSIBLE);
            refused("cut(" + file + ", most)", RefusalTest::rich, t -> t.cut(one, MOST), TapeEnds.NOT_POSSIBLE);
        }
        refused("cut(0, 21) of 20", RefusalTest::full, t -> t.cut(0, 21), TapeEnds.NOT_POSSIBLE);
    }

    private static void move() {
        Check.sentence("move: BAD_VALUE if foot is out of range");
        for (int foot : new int[] {-1, 601, LEAST, MOST}) {
            refused("move(" + foot + ") on 600 feet", RefusalTest::empty, t -> t.move(foot), TapeEnds.BAD_VALUE);
        }
        refused("move(297) on 296 feet", RefusalTest::rich, t -> t.move(297), TapeEnds.BAD_VALUE);
        refused("move(65) on 64 feet", RefusalTest::spliced, t -> t.move(65), TapeEnds.BAD_VALUE);
    }

    private static void readNoSuch() {
        Check.sentence("read: NO_SUCH if there is no such file or block (also ahead of BAD_VALUE)");
        for (int backwards : new int[] {0, 1, 2, -1}) {
            for (int file : NO_FILES) {
                refused("read(" + file + ", 0, " + backwards + ")", RefusalTest::rich,
                    t -> t.read(file, 0, backwards), TapeEnds.NO_SUCH);
            }
            for (int block : new int[] {-1, 1, 19, 20, LEAST, MOST}) {
                refused("read(0, " + block + ", " + backwards + ")", RefusalTest::rich,
                    t -> t.read(0, block, backwards), TapeEnds.NO_SUCH);
                refused("read(1, " + block + ", " + backwards + ")", RefusalTest::rich,
                    t -> t.read(1, block, backwards), TapeEnds.NO_SUCH);
            }
            for (int block : new int[] {-1, 20}) {
                refused("read(0, " + block + ", " + backwards + ") of 20", RefusalTest::full,
                    t -> t.read(0, block, backwards), TapeEnds.NO_SUCH);
            }
            refused("read(0, 0, " + backwards + ") of none", RefusalTest::empty, t -> t.read(0, 0, backwards),
                TapeEnds.NO_SUCH);
            refused("read(1, 0, " + backwards + ") of none", RefusalTest::full, t -> t.read(1, 0, backwards),
                TapeEnds.NO_SUCH);
        }
    }

    private static void readBadValue() {
        Check.sentence("read: BAD_VALUE if backwards is neither 0 nor 1");
        for (int backwards : new int[] {-1, 2, 10, LEAST, MOST}) {
            for (int file = 0; file < 2; file++) {
                int one = file;
                refused("read(" + file + ", 0, " + backwards + ")", RefusalTest::rich, t -> t.read(one, 0, backwards),
                    TapeEnds.BAD_VALUE);
            }
        }
    }

    private static void spliceBadValue() {
        Check.sentence("splice: BAD_VALUE if foot is not a foot of the tape, or bad is out of range (ahead of all)");
        for (int foot : new int[] {-1, 296, 297, LEAST, MOST}) {
            refused("splice(" + foot + ", 1)", RefusalTest::rich, t -> t.splice(foot, 1), TapeEnds.BAD_VALUE);
            refused("splice(" + foot + ", 50)", RefusalTest::rich, t -> t.splice(foot, 50), TapeEnds.BAD_VALUE);
            refused("splice(" + foot + ", 51)", RefusalTest::rich, t -> t.splice(foot, 51), TapeEnds.BAD_VALUE);
        }
        refused("splice(64, 1) after 9", RefusalTest::spliced, t -> t.splice(64, 1), TapeEnds.BAD_VALUE);
        for (int bad : new int[] {0, 51, -1, LEAST, MOST}) {
            refused("splice(50, " + bad + ") in the gap", RefusalTest::rich, t -> t.splice(50, bad),
                TapeEnds.BAD_VALUE);
            refused("splice(3, " + bad + ") in data", RefusalTest::rich, t -> t.splice(3, bad), TapeEnds.BAD_VALUE);
            refused("splice(0, " + bad + ") in a mark", RefusalTest::rich, t -> t.splice(0, bad), TapeEnds.BAD_VALUE);
            refused("splice(1, " + bad + ") after 9", RefusalTest::spliced, t -> t.splice(1, bad), TapeEnds.BAD_VALUE);
        }
    }

    private static void spliceNotPossible() {
        Check.sentence("splice: NOT_POSSIBLE if they are not within");
        int[][] notWithin = {{0, 1}, {2, 1}, {2, 29}, {32, 1}, {33, 1}, {34, 1}, {35, 1}, {35, 50}, {20, 13}, {20, 14},
            {249, 1}, {240, 10}, {250, 1}, {252, 1}, {292, 1}, {293, 1}, {294, 1}, {295, 1}, {295, 50}};
        for (int[] at : notWithin) {
            refused("splice(" + at[0] + ", " + at[1] + ")", RefusalTest::rich, t -> t.splice(at[0], at[1]),
                TapeEnds.NOT_POSSIBLE);
        }
        Check.sentence("splice: NOT_POSSIBLE if a block would have no data then");
        refused("splice(3, 29) of 30 feet of data", RefusalTest::rich, t -> t.splice(3, 29), TapeEnds.NOT_POSSIBLE);
        refused("splice(253, 39) of 40 feet of data", RefusalTest::rich, t -> t.splice(253, 39), TapeEnds.NOT_POSSIBLE);
        Check.sentence("splice: NOT_POSSIBLE if the gap would be less than GAP");
        refused("splice(20, 40) of a gap of 50 to one of 9", t -> {
            t.length(100);
            t.write(0, 10, 0);
            t.write(1, 32, 0);
        }, t -> t.splice(20, 40), TapeEnds.NOT_POSSIBLE);
        refused("splice(102, 1), gap just GAP", RefusalTest::full, t -> t.splice(102, 1), TapeEnds.NOT_POSSIBLE);
    }

    private static void spliceTooMany() {
        Check.sentence("splice: NOT_POSSIBLE, ahead of TOO_MANY");
        int[][] notPossible = {{0, 1}, {12, 1}, {13, 1}, {1, 11}, {14, 1}, {14, 49}, {62, 1}, {63, 1}};
        for (int[] at : notPossible) {
            refused("splice(" + at[0] + ", " + at[1] + ") after 9", RefusalTest::spliced, t -> t.splice(at[0], at[1]),
                TapeEnds.NOT_POSSIBLE);
        }
        Check.sentence("splice: TOO_MANY if there are 9 splices");
        int[][] tooMany = {{1, 1}, {1, 10}, {11, 1}};
        for (int[] at : tooMany) {
            refused("splice(" + at[0] + ", " + at[1] + ") after 9", RefusalTest::spliced, t -> t.splice(at[0], at[1]),
                TapeEnds.TOO_MANY);
        }
        refused("splice(0, 1) in the gap after 9", t -> {
            for (int i = 0; i < 9; i++) {
                t.splice(0, 1);
            }
        }, t -> t.splice(0, 1), TapeEnds.TOO_MANY);
    }

    private static void ofFile() {
        Check.sentence("ofFile: NO_SUCH if there is no such file (also ahead of BAD_VALUE)");
        for (int file : NO_FILES) {
            for (int what : new int[] {-1, 0, 4, 5}) {
                refused("ofFile(" + file + ", " + what + ")", RefusalTest::rich, t -> t.ofFile(file, what),
                    TapeEnds.NO_SUCH);
            }
        }
        Check.sentence("ofFile: BAD_VALUE if what is out of range");
        for (int what : new int[] {-1, 5, LEAST, MOST}) {
            refused("ofFile(0, " + what + ")", RefusalTest::rich, t -> t.ofFile(0, what), TapeEnds.BAD_VALUE);
            refused("ofFile(1, " + what + ")", RefusalTest::empty, t -> t.ofFile(1, what), TapeEnds.BAD_VALUE);
        }
    }

    private static void ofBlock() {
        Check.sentence("ofBlock: NO_SUCH if there is no such file or block (also ahead of BAD_VALUE)");
        for (int what : new int[] {-1, 0, 7, 8}) {
            for (int file : NO_FILES) {
                refused("ofBlock(" + file + ", 0, " + what + ")", RefusalTest::rich, t -> t.ofBlock(file, 0, what),
                    TapeEnds.NO_SUCH);
            }
            for (int block : new int[] {-1, 1, 19, 20, LEAST, MOST}) {
                refused("ofBlock(0, " + block + ", " + what + ")", RefusalTest::rich, t -> t.ofBlock(0, block, what),
                    TapeEnds.NO_SUCH);
                refused("ofBlock(1, " + block + ", " + what + ")", RefusalTest::rich, t -> t.ofBlock(1, block, what),
                    TapeEnds.NO_SUCH);
            }
            refused("ofBlock(0, 20, " + what + ") of 20", RefusalTest::full, t -> t.ofBlock(0, 20, what),
                TapeEnds.NO_SUCH);
            refused("ofBlock(1, 0, " + what + ") of none", RefusalTest::full, t -> t.ofBlock(1, 0, what),
                TapeEnds.NO_SUCH);
        }
        Check.sentence("ofBlock: BAD_VALUE if what is out of range");
        for (int what : new int[] {-1, 8, LEAST, MOST}) {
            refused("ofBlock(0, 0, " + what + ")", RefusalTest::rich, t -> t.ofBlock(0, 0, what), TapeEnds.BAD_VALUE);
            refused("ofBlock(1, 0, " + what + ")", RefusalTest::rich, t -> t.ofBlock(1, 0, what), TapeEnds.BAD_VALUE);
        }
    }

    private static void oneArgument() {
        Check.sentence("at: BAD_VALUE if foot is not a foot of the tape");
        for (int foot : new int[] {-1, 296, 297, LEAST, MOST}) {
            refused("at(" + foot + ") of 296 feet", RefusalTest::rich, t -> t.at(foot), TapeEnds.BAD_VALUE);
        }
        Check.sentence("count: BAD_VALUE if what is out of range");
        for (int what : new int[] {-1, 12, LEAST, MOST}) {
            refused("count(" + what + ")", RefusalTest::rich, t -> t.count(what), TapeEnds.BAD_VALUE);
        }
        Check.sentence("fits: NO_SUCH if there is no such file");
        for (int file : NO_FILES) {
            refused("fits(" + file + ")", RefusalTest::rich, t -> t.fits(file), TapeEnds.NO_SUCH);
        }
        Check.sentence("rooms: BAD_VALUE if data is out of range");
        for (int data : new int[] {0, 100, -1, -4, -6, LEAST, MOST}) {
            refused("rooms(" + data + ")", RefusalTest::rich, t -> t.rooms(data), TapeEnds.BAD_VALUE);
            refused("rooms(" + data + ") of 600 feet", RefusalTest::empty, t -> t.rooms(data), TapeEnds.BAD_VALUE);
        }
    }

    private static void nearest() {
        for (int what : new int[] {-1, 4, LEAST, MOST}) {
            Check.sentence("nearest: BAD_VALUE if what is out of range");
            refused("nearest(" + what + ")", RefusalTest::rich, t -> t.nearest(what), TapeEnds.BAD_VALUE);
            Check.sentence("NONE (-6) is not an error; it is returned only if no error applies");
            refused("nearest(" + what + ") of none", RefusalTest::empty, t -> t.nearest(what), TapeEnds.BAD_VALUE);
        }
    }

    private static void padOf80(TapeEnds t) {
        for (int i = 1; i <= 10; i++) {
            Check.put(t, i < 10 ? "x;x;x;x;" : "x;x;x;m1");
        }
    }

    private static void put() {
        Check.sentence("put: BAD_VALUE if there is no character, a code is not 33 to 126, or a bit above 8 bits that "
            + "are 0 is not 0 (also ahead of TOO_MANY)");
        long[] wrong = {0, 32, 127, 1, 255, 256, 0x78L << 8, 0x7F78L, 0x7820L, 0x780078L, 0x0100000000000078L,
            0x7878787878787800L, 0x2078787878787878L, 0x7F78787878787878L, 0xF878787878787878L, -1, Long.MIN_VALUE};
        for (long code : wrong) {
            String call = "put(0x" + Long.toHexString(code) + ")";
            refused(call, RefusalTest::rich, t -> t.put(code), TapeEnds.BAD_VALUE);
            refused(call + " with 80", RefusalTest::padOf80, t -> t.put(code), TapeEnds.BAD_VALUE);
        }
        Check.sentence("put: TOO_MANY if the pad would be longer than 80");
        for (int had = 73; had <= 80; had++) {
            int size = had;
            for (int more = 81 - had; more <= 8; more++) {
                long code = Check.number("xxxxxxxx".substring(0, more));
                refused("put of " + more + " to " + had, t -> Check.put(t, "x;".repeat(40).substring(0, size)),
                    t -> t.put(code), TapeEnds.TOO_MANY);
            }
        }
    }

    private static void carryOut() {
        Check.sentence("carryOut: BAD_TEXT if the pad has a fault (then it stays)");
        String[] faults = {"", "m", "m7;", "m7;m8;m", "m7;c0.0;X", "m10000", ";m7", "m7 ", "w0:1#2;", "m5;m07;m8"};
        for (String text : faults) {
            Twins.Calls ready = t -> {
                rich(t);
                t.wipe();
                Check.put(t, text);
            };
            refused("carryOut of " + text, ready, t -> t.carryOut(), TapeEnds.BAD_TEXT);
        }
    }

    private static void undo() {
        Check.sentence("undo: NOT_POSSIBLE if there is none");
        refused("undo of a new object", t -> t.count(0), t -> t.undo(), TapeEnds.NOT_POSSIBLE);
        refused("undo after 6", t -> {
            rich(t);
            for (int i = 0; i < 6; i++) {
                t.undo();
            }
        }, t -> t.undo(), TapeEnds.NOT_POSSIBLE);
    }

    private static void slots() {
        int[] noSlots = {-1, 2, LEAST, MOST};
        for (int slot : noSlots) {
            Check.sentence("save: BAD_VALUE if there is no such slot");
            refused("save(" + slot + ")", RefusalTest::rich, t -> t.save(slot), TapeEnds.BAD_VALUE);
            Check.sentence("restore: BAD_VALUE if there is no such slot (also ahead of NOT_POSSIBLE)");
            refused("restore(" + slot + ")", RefusalTest::rich, t -> t.restore(slot), TapeEnds.BAD_VALUE);
            refused("restore(" + slot + "), none saved", RefusalTest::empty, t -> t.restore(slot), TapeEnds.BAD_VALUE);
        }
        Check.sentence("restore: NOT_POSSIBLE if nothing was saved in it");
        for (int slot = 0; slot < 2; slot++) {
            int one = slot;
            refused("restore(" + slot + "), none saved", RefusalTest::full, t -> t.restore(one), TapeEnds.NOT_POSSIBLE);
            refused("restore(" + slot + "), the other saved", t -> {
                t.write(0, 5, 5);
                t.save(1 - one);
                t.move(7);
            }, t -> t.restore(one), TapeEnds.NOT_POSSIBLE);
        }
    }
}
