/** Promises 1 to 5 and the terms of the tape and its files, a test for each sentence that names a boundary. */
public final class TapeBoundsTest {
    private static final int[] FILES = {0, 1};

    public static void main(String[] args) {
        newTape();
        feetAreNumberedFromZero();
        lengthRange();
        lengthMovesHead();
        lengthMovesFileOne();
        lengthChangesNothingElse();
        lengthNeedsEmptyTape();
        tuneRange();
        tuneAndGap();
        blocksKeepTheirMarks();
        gapIsTheFewest();
        gapBetweenBothFiles();
        twentyBlocks();
        dataRange();
        sumRange();
        firstBlockAtTheEndOfTheTape();
        writeMovesHead();
        newBlockIsFresh();
        cutEdges();
        cutLeavesHead();
        cutGivesFeetBack();
        cutFeetAreForBothFiles();
        Check.end();
    }

    private static TapeEnds tape(int feet) {
        TapeEnds t = new TapeEnds();
        t.length(feet);
        return t;
    }

    private static void newTape() {
        Check.sentence("1: Creates an empty tape of 600 feet");
        TapeEnds t = new TapeEnds();
        Check.counts(t, "new", 600, 10, 2, 0, 600, 0, 0, 0, 0, 0, 0, 0);
        Check.due("the first foot", t.at(0), 0);
        Check.due("the last foot", t.at(599), 0);
        for (int file : FILES) {
            int[] wants = {0, 0, 0, 600 * file, 0};
            for (int what = 0; what < wants.length; what++) {
                Check.due("ofFile(" + file + ", " + what + ")", t.ofFile(file, what), wants[what]);
            }
        }
        Check.due("fault()", t.fault(), 0);
    }

    private static void feetAreNumberedFromZero() {
        Check.sentence("Tape: LENGTH feet, numbered from 0");
        for (int feet : new int[] {100, 600, 2000}) {
            TapeEnds t = tape(feet);
            Check.due("at(-1) of " + feet, t.at(-1), TapeEnds.BAD_VALUE);
            Check.due("at(0) of " + feet, t.at(0), 0);
            Check.due("at(" + (feet - 1) + ")", t.at(feet - 1), 0);
            Check.due("at(" + feet + ")", t.at(feet), TapeEnds.BAD_VALUE);
            Check.due("the end of the file 1", t.ofFile(1, 3), feet);
        }
    }

    private static void lengthRange() {
        Check.sentence("2: feet: 100 to 2000; returns the previous length");
        TapeEnds t = new TapeEnds();
        Check.due("length(99)", t.length(99), TapeEnds.BAD_VALUE);
        Check.due("length(100)", t.length(100), 600);
        Check.due("length(101)", t.length(101), 100);
        Check.due("length(1999)", t.length(1999), 101);
        Check.due("length(2000)", t.length(2000), 1999);
        Check.due("length(2001)", t.length(2001), TapeEnds.BAD_VALUE);
        Check.due("length(2000) again", t.length(2000), 2000);
        Check.due("LENGTH", t.count(0), 2000);
        Check.due("the gap", t.count(4), 2000);
        Check.due("each was a change, the errors not", t.count(11), 5);
    }

    private static void lengthMovesHead() {
        Check.sentence("2: The head stays, but it is at LENGTH then if it would be behind it");
        int[][] headThen = {{0, 0}, {299, 299}, {300, 300}, {301, 300}, {600, 300}};
        for (int[] pair : headThen) {
            TapeEnds t = new TapeEnds();
            t.move(pair[0]);
            t.length(300);
            Check.due("length(300) with the head at " + pair[0], t.count(3), pair[1]);
            Check.due("the travel", t.count(8), pair[0]);
        }
        TapeEnds t = new TapeEnds();
        t.move(600);
        t.length(2000);
        Check.due("length(2000) with the head at 600", t.count(3), 600);
    }

    private static void lengthMovesFileOne() {
        Check.sentence("Tape: the file 1 grows from the last foot downwards");
        for (int feet : new int[] {100, 2000}) {
            TapeEnds t = tape(feet);
            t.write(1, 1, 0);
            Check.due("the upper boundary", t.ofBlock(1, 0, 4), feet);
            Check.due("the lower boundary", t.ofBlock(1, 0, 3), feet - 5);
            Check.due("its last foot", t.at(feet - 1), 11);
            Check.due("its first foot", t.at(feet - 5), 11);
            Check.due("the foot before", t.at(feet - 6), 0);
        }
    }

    private static void lengthChangesNothingElse() {
        Check.sentence("2: Changes LENGTH of the tape");
        TapeEnds t = new TapeEnds();
        t.tune(33, 7);
        t.move(20);
        t.write(0, 5, 5);
        t.read(0, 0, 0);
        t.cut(0, 0);
        int travel = 20 + 20 + 19 + 19 + 19;
        Check.counts(t, "before", 600, 33, 7, 19, 600, 0, 0, 0, travel, 1, 0, 5);
        t.length(300);
        Check.counts(t, "after", 300, 33, 7, 19, 300, 0, 0, 0, travel, 1, 0, 6);
    }

    private static void lengthNeedsEmptyTape() {
        Check.sentence("2: it has to be empty; NOT_POSSIBLE if a file has a block");
        for (int file : FILES) {
            TapeEnds t = new TapeEnds();
            t.write(file, 1, 0);
            t.write(file, 1, 0);
            Check.due("length with 2 blocks", t.length(600), TapeEnds.NOT_POSSIBLE);
            t.cut(file, 1);
            Check.due("length with 1 block", t.length(600), TapeEnds.NOT_POSSIBLE);
            t.cut(file, 0);
            Check.due("length with none", t.length(500), 600);
        }
        Check.sentence("2: NOT_POSSIBLE if there was a splice");
        TapeEnds t = new TapeEnds();
        t.write(0, 9, 0);
        t.splice(2, 1);
        t.cut(0, 0);
        Check.due("length, empty but spliced", t.length(600), TapeEnds.NOT_POSSIBLE);
        t.undo();
        t.undo();
        t.cut(0, 0);
        Check.due("length when the splice is undone", t.length(500), 600);
    }

    private static void tuneRange() {
        Check.sentence("3: gap: 1 to 99; mark: 1 to 9; returns the previous GAP, and 100 times the previous MARK");
        TapeEnds t = new TapeEnds();
        Check.due("tune(1, 1)", t.tune(1, 1), 210);
        Check.due("tune(99, 1)", t.tune(99, 1), 101);
        Check.due("tune(1, 9)", t.tune(1, 9), 199);
        Check.due("tune(99, 9)", t.tune(99, 9), 901);
        Check.due("tune(0, 9)", t.tune(0, 9), TapeEnds.BAD_VALUE);
        Check.due("tune(100, 9)", t.tune(100, 9), TapeEnds.BAD_VALUE);
        Check.due("tune(99, 0)", t.tune(99, 0), TapeEnds.BAD_VALUE);
        Check.due("tune(99, 10)", t.tune(99, 10), TapeEnds.BAD_VALUE);
        Check.due("GAP", t.count(1), 99);
        Check.due("MARK", t.count(2), 9);
    }

    private static void tuneAndGap() {
        Check.sentence("3: NOT_POSSIBLE if the gap is less than that now");
        for (int file : FILES) {
            TapeEnds t = tape(100);
            t.write(file, 46, 0);
            Check.due("the gap", t.count(4), 50);
            Check.due("tune(51, 2)", t.tune(51, 2), TapeEnds.NOT_POSSIBLE);
            Check.due("tune(50, 9)", t.tune(50, 9), 210);
            Check.due("tune(49, 9)", t.tune(49, 9), 950);
        }
        TapeEnds t = tape(100);
        Check.due("tune(99, 9) of 100 feet", t.tune(99, 9), 210);
    }

    private static void blocksKeepTheirMarks() {
        Check.sentence("3: blocks that there are keep their marks; Tape: MARK, as that is when it is written");
        for (int file : FILES) {
            TapeEnds t = tape(2000);
            for (int mark = 1; mark <= 9; mark++) {
                t.tune(10, mark);
                t.write(file, 99, 0);
            }
            t.tune(10, 1);
            for (int block = 0; block < 9; block++) {
                int lower = t.ofBlock(file, block, 3);
                int mark = block + 1;
                Check.due("whole length", t.ofBlock(file, block, 2), 99 + 2 * mark);
                Check.due("data", t.ofBlock(file, block, 0), 99);
                Check.due("the first foot", t.at(lower), 10 * file + 1);
                Check.due("the last of the lower mark", t.at(lower + mark - 1), 10 * file + 1);
                Check.due("the first of the data", t.at(lower + mark), 10 * file + 2);
                Check.due("the last of the data", t.at(lower + mark + 98), 10 * file + 2);
                Check.due("the first of the upper mark", t.at(lower + mark + 99), 10 * file + 1);
                Check.due("the last foot", t.at(lower + 2 * mark + 98), 10 * file + 1);
            }
            Check.due("feet of the file", t.ofFile(file, 1), 9 * 99 + 90);
        }
    }

    private static void gapIsTheFewest() {
        Check.sentence("4: NOT_POSSIBLE if the gap would be less than GAP");
        int[][] gapMarkMost = {{10, 2, 86}, {1, 1, 97}, {1, 9, 81}, {80, 9, 2}, {81, 9, 1}, {97, 1, 1}};
        for (int[] tuned : gapMarkMost) {
            for (int file : FILES) {
                TapeEnds t = tape(100);
                t.tune(tuned[0], tuned[1]);
                String call = "GAP " + tuned[0] + ", MARK " + tuned[1] + ", write(" + file + ", " + tuned[2];
                Check.due(call + " + 1)", t.write(file, tuned[2] + 1, 0), TapeEnds.NOT_POSSIBLE);
                Check.due(call + ")", t.write(file, tuned[2], 0), 0);
                Check.due(call + "): the gap", t.count(4), tuned[0]);
                Check.due(call + ") and one more", t.write(1 - file, 1, 0), TapeEnds.NOT_POSSIBLE);
            }
        }
        TapeEnds t = tape(100);
        t.tune(98, 1);
        Check.due("write(0, 1, 0) with GAP 98", t.write(0, 1, 0), TapeEnds.NOT_POSSIBLE);
    }

    private static void gapBetweenBothFiles() {
        Check.sentence("Tape: GAP is the fewest free feet that have to be between them");
        for (int file : FILES) {
            TapeEnds t = tape(200);
            t.write(file, 99, 0);
            Check.due("one foot too much", t.write(1 - file, 84, 0), TapeEnds.NOT_POSSIBLE);
            Check.due("just GAP", t.write(1 - file, 83, 0), 0);
            Check.due("the gap", t.count(4), 10);
            Check.due("the ends", t.ofFile(1, 3) - t.ofFile(0, 3), 10);
            Check.due("the last foot of the file 0", t.at(t.ofFile(0, 3) - 1), 1);
            Check.due("the first foot of the gap", t.at(t.ofFile(0, 3)), 0);
            Check.due("the last foot of the gap", t.at(t.ofFile(1, 3) - 1), 0);
            Check.due("the first foot of the file 1", t.at(t.ofFile(1, 3)), 11);
        }
    }

    private static void twentyBlocks() {
        Check.sentence("4: returns its number; TOO_MANY if the file has 20 blocks");
        for (int file : FILES) {
            TapeEnds t = new TapeEnds();
            for (int block = 0; block < 20; block++) {
                Check.due("number", t.write(file, 1 + block, 100 + block), block);
            }
            Check.due("the 21st", t.write(file, 1, 0), TapeEnds.TOO_MANY);
            Check.due("the other file", t.write(1 - file, 1, 0), 0);
            Check.due("the first one's data", t.ofBlock(file, 0, 0), 1);
            Check.due("the last one's data", t.ofBlock(file, 19, 0), 20);
            Check.due("the last one's sum", t.ofBlock(file, 19, 1), 119);
            Check.due("all sums", t.ofFile(file, 4), 2000 + 190);
            t.cut(file, 19);
            Check.due("the 20th again", t.write(file, 5, 0), 19);
            Check.due("the 21st again", t.write(file, 5, 0), TapeEnds.TOO_MANY);
        }
    }

    private static void dataRange() {
        Check.sentence("4: data: 1 to 99");
        for (int file : FILES) {
            TapeEnds t = new TapeEnds();
            Check.due("write(" + file + ", 0, 0)", t.write(file, 0, 0), TapeEnds.BAD_VALUE);
            Check.due("write(" + file + ", 1, 0)", t.write(file, 1, 0), 0);
            Check.due("write(" + file + ", 99, 0)", t.write(file, 99, 0), 1);
            Check.due("write(" + file + ", 100, 0)", t.write(file, 100, 0), TapeEnds.BAD_VALUE);
            Check.due("1 foot of data", t.ofBlock(file, 0, 0), 1);
            Check.due("99 feet of data", t.ofBlock(file, 1, 0), 99);
        }
    }

    private static void sumRange() {
        Check.sentence("4: sum: 0 to 9999");
        for (int file : FILES) {
            TapeEnds t = new TapeEnds();
            Check.due("write(" + file + ", 1, -1)", t.write(file, 1, -1), TapeEnds.BAD_VALUE);
            Check.due("write(" + file + ", 1, 0)", t.write(file, 1, 0), 0);
            Check.due("write(" + file + ", 1, 9999)", t.write(file, 1, 9999), 1);
            Check.due("write(" + file + ", 1, 10000)", t.write(file, 1, 10000), TapeEnds.BAD_VALUE);
            Check.due("the sum 0", t.ofBlock(file, 0, 1), 0);
            Check.due("the sum 9999", t.ofBlock(file, 1, 1), 9999);
        }
    }

    private static void firstBlockAtTheEndOfTheTape() {
        Check.sentence("Tape: the first one at its end of the tape; side by side, without a foot between them");
        TapeEnds t = new TapeEnds();
        int[] data = {1, 99, 7, 30};
        int filled = 0;
        for (int block = 0; block < data.length; block++) {
            t.write(0, data[block], 0);
            t.write(1, data[block], 0);
            int whole = data[block] + 4;
            Check.due("file 0, lower", t.ofBlock(0, block, 3), filled);
            Check.due("file 0, upper", t.ofBlock(0, block, 4), filled + whole);
            Check.due("file 1, upper", t.ofBlock(1, block, 4), 600 - filled);
            Check.due("file 1, lower", t.ofBlock(1, block, 3), 600 - filled - whole);
            filled += whole;
            Check.due("the end of the file 0", t.ofFile(0, 3), filled);
            Check.due("the end of the file 1", t.ofFile(1, 3), 600 - filled);
        }
    }

    private static void writeMovesHead() {
        Check.sentence("Head: To write a block the head is moved to the end of the file (that in the gap), and then "
            + "over the whole length of the new block, away from the file's end of the tape");
        int[][] headFile = {{0, 0}, {19, 0}, {20, 0}, {21, 0}, {600, 0}, {600, 1}, {571, 1}, {570, 1}, {569, 1}, {0, 1}};
        for (int[] from : headFile) {
            TapeEnds t = new TapeEnds();
            t.write(0, 16, 0);
            t.write(1, 26, 0);
            t.move(from[0]);
            int travel = t.count(8);
            t.write(from[1], 10, 0);
            String call = "from " + from[0] + ", to the file " + from[1];
            Check.due(call + ": the head", t.count(3), from[1] == 0 ? 34 : 556);
            int wayToEnd = Math.abs(from[0] - (from[1] == 0 ? 20 : 570));
            Check.due(call + ": the travel", t.count(8) - travel, wayToEnd + 14);
        }
    }

    private static void newBlockIsFresh() {
        Check.sentence("4: Writes a block behind a file (in the place of one that was cut off nothing of that is left)");
        for (int file : FILES) {
            TapeEnds t = new TapeEnds();
            t.tune(10, 9);
            t.write(file, 50, 1234);
            t.read(file, 0, 0);
            t.cut(file, 0);
            t.tune(10, 1);
            t.write(file, 3, 0);
            int[] wants = {3, 0, 5, file * 595, 5 + file * 595, 0};
            for (int what = 0; what < wants.length; what++) {
                Check.due("ofBlock(" + file + ", 0, " + what + ")", t.ofBlock(file, 0, what), wants[what]);
            }
        }
    }

    private static void cutEdges() {
        Check.sentence("5: Returns how many blocks are gone; BAD_VALUE if blocks is below 0; NOT_POSSIBLE if fewer");
        for (int file : FILES) {
            TapeEnds t = new TapeEnds();
            Check.due("cut(" + file + ", 0) of none", t.cut(file, 0), 0);
            Check.due("cut(" + file + ", 1) of none", t.cut(file, 1), TapeEnds.NOT_POSSIBLE);
            for (int block = 0; block < 20; block++) {
                t.write(file, 1, block);
            }
            Check.due("cut(" + file + ", 21) of 20", t.cut(file, 21), TapeEnds.NOT_POSSIBLE);
            Check.due("cut(" + file + ", 20) of 20", t.cut(file, 20), 0);
            Check.due("cut(" + file + ", 19) of 20", t.cut(file, 19), 1);
            Check.due("cut(" + file + ", 20) of 19", t.cut(file, 20), TapeEnds.NOT_POSSIBLE);
            Check.due("cut(" + file + ", 1) of 19", t.cut(file, 1), 18);
            Check.due("cut(" + file + ", -1) of 1", t.cut(file, -1), TapeEnds.BAD_VALUE);
            Check.due("the first one stays", t.ofBlock(file, 0, 1), 0);
            Check.due("the second one is gone", t.ofBlock(file, 1, 1), TapeEnds.NO_SUCH);
            Check.due("cut(" + file + ", 0) of 1", t.cut(file, 0), 1);
            Check.due("the first one is gone", t.ofBlock(file, 0, 1), TapeEnds.NO_SUCH);
        }
    }

    private static void cutLeavesHead() {
        Check.sentence("5: Cuts a file to its first blocks; the head stays");
        for (int head : new int[] {0, 5, 10, 300, 590, 600}) {
            TapeEnds t = new TapeEnds();
            t.write(0, 6, 1);
            t.write(1, 6, 1);
            t.move(head);
            int travel = t.count(8);
            t.cut(0, 0);
            t.cut(1, 0);
            Check.due("the head", t.count(3), head);
            Check.due("the travel", t.count(8), travel);
        }
    }

    private static void cutGivesFeetBack() {
        Check.sentence("Tape: the gap are the feet between both files");
        TapeEnds t = new TapeEnds();
        t.write(0, 20, 1);
        t.write(0, 30, 1);
        t.write(1, 40, 1);
        t.write(1, 50, 1);
        Check.due("the gap", t.count(4), 600 - 24 - 34 - 44 - 54);
        t.cut(0, 1);
        Check.due("the gap after cut(0, 1)", t.count(4), 600 - 24 - 44 - 54);
        Check.due("the foot 24", t.at(24), 0);
        t.cut(1, 0);
        Check.due("the gap after cut(1, 0)", t.count(4), 600 - 24);
        Check.due("the last foot", t.at(599), 0);
        t.cut(0, 0);
        Check.due("the gap of none", t.count(4), 600);
        Check.due("the first foot", t.at(0), 0);
    }

    private static void cutFeetAreForBothFiles() {
        Check.sentence("Tape: The feet of a file are those of its blocks (not those of blocks that were cut off)");
        for (int file : FILES) {
            TapeEnds t = tape(100);
            t.write(file, 86, 7);
            t.cut(file, 0);
            Check.due("write to the other file", t.write(1 - file, 86, 8), 0);
            int gapFoot = file == 0 ? 2 : 92;
            Check.due("a foot of the gap", t.at(gapFoot), 0);
            Check.due("splice in the gap of just GAP", t.splice(gapFoot, 1), TapeEnds.NOT_POSSIBLE);
            int markFoot = file == 0 ? 10 : 88;
            Check.due("a mark", t.at(markFoot), file == 0 ? 11 : 1);
            Check.due("splice in the mark", t.splice(markFoot, 1), TapeEnds.NOT_POSSIBLE);
            Check.due("splice in the data", t.splice(50, 5), 94);
            Check.due("the data", t.ofBlock(1 - file, 0, 0), 80);
            Check.due("the sum", t.ofBlock(1 - file, 0, 1), 0);
        }
    }
}
