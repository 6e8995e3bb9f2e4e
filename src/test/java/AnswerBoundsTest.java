/** Promises 10 to 16, a test for each sentence that names a boundary. */
public final class AnswerBoundsTest {
    private static final int[] FILES = {0, 1};

    public static void main(String[] args) {
        ofFileOfNone();
        ofFileOfTwenty();
        ofFileRange();
        ofBlockRange();
        ofBlockOfTwenty();
        atEdges();
        atBetweenBlocks();
        atAfterSplice();
        countRange();
        countOfNumbers();
        countOfMuchTravel();
        fitsGreatest();
        fitsLeast();
        fitsTwenty();
        fitsIsWhatWriteTakes();
        roomsRange();
        roomsWhole();
        roomsTwentyEach();
        roomsNone();
        nearestRange();
        nearestOfNone();
        nearestFileZeroFirst();
        nearestLowestBlock();
        nearestForwardsFirst();
        nearestByEitherWay();
        Check.end();
    }

    private static TapeEnds tape(int feet, int gap, int mark) {
        TapeEnds t = new TapeEnds();
        t.length(feet);
        t.tune(gap, mark);
        return t;
    }

    private static void ofFileOfNone() {
        Check.sentence("10: 0 its blocks, 1 its feet, 2 its data, 3 the foot boundary of its end in the gap, 4 all sums "
            + "(of an empty file)");
        for (int file : FILES) {
            TapeEnds t = tape(100, 1, 1);
            t.write(1 - file, 50, 50);
            int[] wants = {0, 0, 0, 100 * file, 0};
            for (int what = 0; what < wants.length; what++) {
                Check.due("ofFile(" + file + ", " + what + ")", t.ofFile(file, what), wants[what]);
            }
        }
    }

    private static void ofFileOfTwenty() {
        Check.sentence("10: 4 all sums together (of 20 blocks of 9999), and all feet");
        for (int file : FILES) {
            TapeEnds t = tape(2000, 1, 1);
            for (int block = 0; block < 20; block++) {
                t.write(file, 90, 9999);
            }
            int[] wants = {20, 1840, 1800, file == 0 ? 1840 : 160, 199980};
            for (int what = 0; what < wants.length; what++) {
                Check.due("ofFile(" + file + ", " + what + ")", t.ofFile(file, what), wants[what]);
            }
        }
    }

    private static void ofFileRange() {
        Check.sentence("10: NO_SUCH if there is no such file; BAD_VALUE if what is out of range");
        TapeEnds t = new TapeEnds();
        for (int what = 0; what <= 4; what++) {
            Check.due("ofFile(-1, " + what + ")", t.ofFile(-1, what), TapeEnds.NO_SUCH);
            Check.due("ofFile(0, " + what + ")", t.ofFile(0, what), 0);
            Check.due("ofFile(1, " + what + ")", t.ofFile(1, what), what == 3 ? 600 : 0);
            Check.due("ofFile(2, " + what + ")", t.ofFile(2, what), TapeEnds.NO_SUCH);
        }
        for (int file : FILES) {
            Check.due("ofFile(" + file + ", -1)", t.ofFile(file, -1), TapeEnds.BAD_VALUE);
            Check.due("ofFile(" + file + ", 5)", t.ofFile(file, 5), TapeEnds.BAD_VALUE);
        }
    }

    private static void ofBlockRange() {
        Check.sentence("11: NO_SUCH if there is no such file or block; BAD_VALUE if what is out of range");
        for (int file : FILES) {
            TapeEnds t = new TapeEnds();
            Check.due("ofBlock(" + file + ", 0, 0) of none", t.ofBlock(file, 0, 0), TapeEnds.NO_SUCH);
            t.write(file, 6, 55);
            t.write(file, 16, 44);
            int[] wants = {16, 44, 20, file == 0 ? 10 : 570, file == 0 ? 30 : 590, 0};
            for (int what = 0; what < wants.length; what++) {
                Check.due("ofBlock(" + file + ", 1, " + what + ")", t.ofBlock(file, 1, what), wants[what]);
            }
            Check.due("forwards", t.ofBlock(file, 1, 6), 40);
            Check.due("backwards", t.ofBlock(file, 1, 7), 20);
            Check.due("ofBlock(" + file + ", 1, -1)", t.ofBlock(file, 1, -1), TapeEnds.BAD_VALUE);
            Check.due("ofBlock(" + file + ", 1, 8)", t.ofBlock(file, 1, 8), TapeEnds.BAD_VALUE);
            Check.due("ofBlock(" + file + ", -1, 0)", t.ofBlock(file, -1, 0), TapeEnds.NO_SUCH);
            Check.due("ofBlock(" + file + ", 2, 0)", t.ofBlock(file, 2, 0), TapeEnds.NO_SUCH);
            Check.due("ofBlock(" + (1 - file) + ", 0, 0)", t.ofBlock(1 - file, 0, 0), TapeEnds.NO_SUCH);
        }
    }

    private static void ofBlockOfTwenty() {
        Check.sentence("11: 0 its data ... 7 backwards (of the last of 20 blocks in both files)");
        TapeEnds t = tape(2000, 1, 2);
        for (int block = 0; block < 20; block++) {
            t.write(0, 10 + block, 100 + block);
            t.write(1, 40 + block, 200 + block);
        }
        t.move(460);
        int[][] wants = {{29, 119, 33, 437, 470, 0, 56, 43}, {59, 219, 63, 930, 993, 0, 596, 533}};
        for (int file : FILES) {
            for (int what = 0; what < 8; what++) {
                Check.due("ofBlock(" + file + ", 19, " + what + ")", t.ofBlock(file, 19, what), wants[file][what]);
            }
        }
    }

    private static void atEdges() {
        Check.sentence("12: 0 the gap, 1 a mark, 2 data; and 10 more for the file 1");
        TapeEnds t = tape(100, 10, 3);
        t.write(0, 1, 0);
        t.write(1, 2, 0);
        int[][] footKind = {{-1, -2}, {0, 1}, {2, 1}, {3, 2}, {4, 1}, {6, 1}, {7, 0}, {91, 0}, {92, 11}, {94, 11},
            {95, 12}, {96, 12}, {97, 11}, {99, 11}, {100, -2}};
        for (int[] pair : footKind) {
            Check.due("at(" + pair[0] + ")", t.at(pair[0]), pair[1]);
        }
        Check.sentence("12: the gap (where a block was before it was cut off)");
        t.cut(0, 0);
        t.cut(1, 0);
        for (int foot : new int[] {0, 3, 6, 92, 95, 99}) {
            Check.due("at(" + foot + ")", t.at(foot), 0);
        }
    }

    private static void atBetweenBlocks() {
        Check.sentence("12: 1 a mark (behind a block, and in front of the next one)");
        TapeEnds t = tape(100, 10, 1);
        t.write(0, 1, 0);
        t.write(1, 1, 0);
        t.tune(10, 2);
        t.write(0, 1, 0);
        t.write(1, 1, 0);
        int[] lower = {1, 2, 1, 1, 1, 2, 1, 1, 0};
        int[] upper = {0, 11, 11, 12, 11, 11, 11, 12, 11};
        for (int i = 0; i < lower.length; i++) {
            Check.due("at(" + i + ")", t.at(i), lower[i]);
            Check.due("at(" + (91 + i) + ")", t.at(91 + i), upper[i]);
        }
    }

    private static void atAfterSplice() {
        Check.sentence("12: BAD_VALUE if foot is not a foot of the tape (after a splice)");
        TapeEnds t = new TapeEnds();
        t.write(1, 10, 0);
        t.splice(588, 4);
        Check.due("at(594)", t.at(594), 11);
        Check.due("at(595)", t.at(595), TapeEnds.BAD_VALUE);
        Check.due("at(592)", t.at(592), 12);
        Check.due("at(593)", t.at(593), 11);
        Check.due("at(587)", t.at(587), 11);
        Check.due("at(586)", t.at(586), 11);
        Check.due("at(585)", t.at(585), 0);
    }

    private static void countRange() {
        Check.sentence("13: BAD_VALUE if what is out of range");
        TapeEnds t = new TapeEnds();
        Check.due("count(-1)", t.count(-1), TapeEnds.BAD_VALUE);
        Check.due("count(0)", t.count(0), 600);
        Check.due("count(11)", t.count(11), 0);
        Check.due("count(12)", t.count(12), TapeEnds.BAD_VALUE);
    }

    private static void countOfNumbers() {
        Check.sentence("13: 0 LENGTH, 1 GAP ... 11 how many changes can be undone (each another number)");
        TapeEnds t = tape(1000, 17, 4);
        t.write(0, 50, 1);
        t.write(1, 60, 2);
        t.write(1, 70, 3);
        t.splice(500, 12);
        t.splice(300, 7);
        t.read(0, 0, 1);
        t.move(321);
        t.undo();
        t.move(123);
        t.undo();
        Check.put(t, "1234567");
        int travel = 58 + 942 + 68 + 78 + (979 - 146 - 58) + 58;
        Check.counts(t, "count", 979, 17, 4, 0, 979 - 58 - 146, 3, 2, 21, travel, 1, 7, 5);
    }

    private static void countOfMuchTravel() {
        Check.sentence("13: 8 the travel so far (all of 510 moves from end to end)");
        TapeEnds t = new TapeEnds();
        t.length(2000);
        for (int i = 1; i <= 510; i++) {
            t.move(2000 * (i % 2));
        }
        Check.due("count(8)", t.count(8), 510 * 2000);
    }

    private static void fitsGreatest() {
        Check.sentence("14: the greatest data, 0 to 99, that a block could have that is written to a file now");
        int[][] feetGapMark = {{112, 10, 2, 98}, {113, 10, 2, 99}, {114, 10, 2, 99}, {118, 1, 9, 99}, {117, 1, 9, 98},
            {102, 1, 1, 99}, {101, 1, 1, 98}, {2000, 1, 1, 99}, {100, 99, 9, 0}};
        for (int[] w : feetGapMark) {
            TapeEnds t = tape(w[0], w[1], w[2]);
            for (int file : FILES) {
                Check.due("fits(" + file + ") of " + w[0] + ", " + w[1] + ", " + w[2], t.fits(file), w[3]);
            }
        }
    }

    private static void fitsLeast() {
        Check.sentence("14: 0 if none can be");
        int[][] gapThen = {{96, 2}, {97, 1}, {98, 0}, {99, 0}};
        for (int[] w : gapThen) {
            TapeEnds t = tape(100, w[0], 1);
            for (int file : FILES) {
                Check.due("fits(" + file + ") with GAP " + w[0], t.fits(file), w[1]);
            }
        }
    }

    private static void fitsTwenty() {
        Check.sentence("14: 0 if none can be (the file has 20 blocks)");
        for (int file : FILES) {
            TapeEnds t = new TapeEnds();
            for (int block = 0; block < 20; block++) {
                Check.due("fits with " + block + " blocks", t.fits(file), 99);
                t.write(file, 1, 0);
            }
            Check.due("fits with 20 blocks", t.fits(file), 0);
            Check.due("fits of the other one", t.fits(1 - file), 99);
            t.cut(file, 19);
            Check.due("fits with 19 blocks", t.fits(file), 99);
        }
    }

    private static void fitsIsWhatWriteTakes() {
        Check.sentence("14: that is written to a file now (one foot more is not possible)");
        for (int mark = 1; mark <= 9; mark++) {
            for (int file : FILES) {
                TapeEnds t = tape(140, 21, mark);
                t.write(0, 5, 0);
                t.write(1, 15, 0);
                int fits = t.fits(file);
                Check.due("fits(" + file + ") with MARK " + mark, fits, 140 - 20 - 4 * mark - 21 - 2 * mark);
                Check.due("one more", t.write(file, fits + 1, 0), TapeEnds.NOT_POSSIBLE);
                Check.due("just that", t.write(file, fits, 0), 1);
                Check.due("then none", t.fits(file), 0);
            }
        }
    }

    private static void roomsRange() {
        Check.sentence("15: data: 1 to 99; BAD_VALUE if data is out of range");
        TapeEnds t = new TapeEnds();
        Check.due("rooms(0)", t.rooms(0), TapeEnds.BAD_VALUE);
        Check.due("rooms(1)", t.rooms(1), 40);
        Check.due("rooms(99)", t.rooms(99), 5);
        Check.due("rooms(100)", t.rooms(100), TapeEnds.BAD_VALUE);
    }

    private static void roomsWhole() {
        Check.sentence("15: Returns how many (the last one leaves just GAP, or 1 foot less)");
        for (int mark = 1; mark <= 9; mark += 4) {
            int whole = 20 + 2 * mark;
            for (int many = 5; many <= 32; many += 9) {
                Check.due("just so many feet", tape(many * whole + 15, 15, mark).rooms(20), many);
                Check.due("1 foot less", tape(many * whole + 14, 15, mark).rooms(20), many - 1);
                Check.due("all but 1 foot more", tape((many + 1) * whole + 14, 15, mark).rooms(20), many);
            }
        }
    }

    private static void roomsTwentyEach() {
        Check.sentence("15: how many blocks of some data could be written to both files together (20 in each)");
        TapeEnds t = tape(2000, 1, 1);
        Check.due("rooms(47): 40 of 49 feet", t.rooms(47), 40);
        Check.due("rooms(48): 39 of 50 feet", t.rooms(48), 39);
        for (int block = 0; block < 20; block++) {
            t.write(0, 1, 0);
            Check.due("rooms(1) with " + (block + 1), t.rooms(1), 39 - block);
        }
        for (int block = 0; block < 20; block++) {
            t.write(1, 1, 0);
            Check.due("rooms(1) with 20 and " + (block + 1), t.rooms(1), 19 - block);
        }
    }

    private static void roomsNone() {
        Check.sentence("15: Returns how many (none, and one)");
        TapeEnds t = tape(100, 94, 2);
        Check.due("rooms(1) with 6 feet more than GAP", t.rooms(1), 1);
        Check.due("rooms(2) with 6 feet more than GAP", t.rooms(2), 1);
        Check.due("rooms(3) with 6 feet more than GAP", t.rooms(3), 0);
        t.write(0, 2, 0);
        Check.due("rooms(1) with just GAP", t.rooms(1), 0);
    }

    private static void dueNearest(TapeEnds t, int file, int block, int backwards, int travel) {
        int[] wants = {file, block, backwards, travel};
        for (int what = 0; what < wants.length; what++) {
            Check.due("nearest(" + what + ") from " + t.count(3), t.nearest(what), wants[what]);
        }
    }

    private static void nearestRange() {
        Check.sentence("16: 0 the file, 1 the block, 2 whether it is read backwards, 3 the travel; BAD_VALUE");
        TapeEnds t = tape(100, 10, 2);
        t.write(1, 6, 0);
        t.write(1, 7, 0);
        dueNearest(t, 1, 1, 1, 11);
        Check.due("nearest(-1)", t.nearest(-1), TapeEnds.BAD_VALUE);
        Check.due("nearest(4)", t.nearest(4), TapeEnds.BAD_VALUE);
    }

    private static void nearestOfNone() {
        Check.sentence("16: NONE if there is no block; NONE is returned only if no error applies");
        TapeEnds t = new TapeEnds();
        for (int what = 0; what <= 3; what++) {
            Check.due("nearest(" + what + ")", t.nearest(what), TapeEnds.NONE);
        }
        Check.due("nearest(-1)", t.nearest(-1), TapeEnds.BAD_VALUE);
        Check.due("nearest(4)", t.nearest(4), TapeEnds.BAD_VALUE);
        t.write(0, 1, 0);
        t.cut(0, 0);
        Check.due("nearest(0) when all is cut off", t.nearest(0), TapeEnds.NONE);
    }

    private static void nearestFileZeroFirst() {
        Check.sentence("16: of several the one of the file 0");
        TapeEnds t = tape(100, 10, 2);
        t.write(0, 6, 0);
        t.write(1, 6, 0);
        t.move(50);
        dueNearest(t, 0, 0, 1, 50);
        t.move(49);
        dueNearest(t, 0, 0, 1, 49);
        t.move(51);
        dueNearest(t, 1, 0, 1, 49);
        Check.sentence("16: of several the one of the file 0 (ahead of a lower block, and of forwards)");
        t = tape(100, 10, 2);
        t.write(0, 6, 0);
        t.write(0, 1, 0);
        t.write(1, 6, 0);
        t.move(55);
        dueNearest(t, 0, 1, 1, 45);
        t.move(56);
        dueNearest(t, 1, 0, 1, 44);
        t.cut(0, 0);
        t.cut(1, 0);
        t.write(0, 1, 0);
        t.write(1, 1, 0);
        t.move(5);
        dueNearest(t, 0, 0, 1, 5);
    }

    private static void nearestLowestBlock() {
        Check.sentence("16: of several ... then the lowest one");
        for (int file : FILES) {
            TapeEnds t = tape(100, 10, 2);
            t.write(file, 6, 0);
            t.write(file, 6, 0);
            t.write(file, 6, 0);
            t.move(file == 0 ? 10 : 90);
            dueNearest(t, file, 0, 1, 10);
            t.move(file == 0 ? 20 : 80);
            dueNearest(t, file, 1, 1, 10);
            t.move(file == 0 ? 11 : 89);
            dueNearest(t, file, 0, 1, 11);
            t.move(file == 0 ? 19 : 81);
            dueNearest(t, file, 1, 1, 11);
        }
    }

    private static void nearestForwardsFirst() {
        Check.sentence("16: of several ... then forwards");
        for (int file : FILES) {
            TapeEnds t = tape(100, 10, 2);
            t.write(file, 6, 0);
            t.move(file == 0 ? 5 : 95);
            dueNearest(t, file, 0, 0, 15);
            t.move(file == 0 ? 6 : 94);
            dueNearest(t, file, 0, 1, 14);
            t.move(file == 0 ? 4 : 96);
            dueNearest(t, file, 0, 0, 14);
        }
    }

    private static void nearestByEitherWay() {
        Check.sentence("16: the block that takes the least travel to be read, by whichever way");
        TapeEnds t = tape(200, 10, 1);
        t.write(0, 50, 0);
        t.write(0, 3, 0);
        t.write(0, 9, 0);
        t.write(1, 30, 0);
        t.write(1, 8, 0);
        t.move(0);
        dueNearest(t, 0, 0, 0, 52);
        t.move(30);
        dueNearest(t, 0, 1, 0, 27);
        t.move(70);
        dueNearest(t, 0, 2, 1, 13);
        t.move(150);
        dueNearest(t, 1, 1, 1, 18);
        t.move(200);
        dueNearest(t, 1, 0, 0, 32);
        t.move(168);
        dueNearest(t, 1, 1, 0, 10);
        t.move(158);
        dueNearest(t, 1, 1, 1, 10);
    }
}
