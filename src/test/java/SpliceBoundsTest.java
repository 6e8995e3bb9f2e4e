/** Promise 9 and the terms of splices, a test for each sentence that names a boundary. */
public final class SpliceBoundsTest {
    private static final int[] FILES = {0, 1};

    public static void main(String[] args) {
        badRange();
        footRange();
        oneFootMore();
        withinDataOfFileZero();
        withinDataOfFileOne();
        notOverTwoBlocks();
        withinGap();
        gapOfEmptyTape();
        placeOfCutBlockIsGap();
        someDataHasToStay();
        gapHasToStay();
        gapMayBeSmallForData();
        sumIsLost();
        onlyDataAndSumChange();
        nineSplices();
        nineAgainAfterUndo();
        higherFeetMoveDown();
        headIsMoved();
        headInsideBlockAndAtEnd();
        belowHundredFeet();
        feetTakenOut();
        Check.end();
    }

    /**
     * GAP 10, marks of 3 feet: the file 0 at 0 to 36 and 36 to 62 with data at 3 to 33 and 39 to 59, the file 1 at
     * 254 to 300 and 238 to 254 with data at 257 to 297 and 241 to 251.
     */
    private static TapeEnds example() {
        TapeEnds t = new TapeEnds();
        t.length(300);
        t.tune(10, 3);
        t.write(0, 30, 11);
        t.write(0, 20, 22);
        t.write(1, 40, 33);
        t.write(1, 10, 44);
        return t;
    }

    private static void due(int foot, int bad, int want) {
        Check.due("splice(" + foot + ", " + bad + ")", example().splice(foot, bad), want);
    }

    private static void badRange() {
        Check.sentence("9: bad: 1 to 50");
        TapeEnds t = new TapeEnds();
        Check.due("splice(100, 0)", t.splice(100, 0), TapeEnds.BAD_VALUE);
        Check.due("splice(100, 1)", t.splice(100, 1), 598);
        Check.due("splice(100, 50)", t.splice(100, 50), 547);
        Check.due("splice(100, 51)", t.splice(100, 51), TapeEnds.BAD_VALUE);
        t.write(0, 99, 5);
        Check.due("splice(2, 51) in data", t.splice(2, 51), TapeEnds.BAD_VALUE);
        Check.due("splice(2, 50) in data", t.splice(2, 50), 496);
        Check.due("the data", t.ofBlock(0, 0, 0), 48);
    }

    private static void footRange() {
        Check.sentence("9: BAD_VALUE if foot is not a foot of the tape");
        due(-1, 1, TapeEnds.BAD_VALUE);
        due(0, 1, TapeEnds.NOT_POSSIBLE);
        due(299, 1, TapeEnds.NOT_POSSIBLE);
        due(300, 1, TapeEnds.BAD_VALUE);
        TapeEnds t = new TapeEnds();
        Check.due("splice(600, 1) of none", t.splice(600, 1), TapeEnds.BAD_VALUE);
        Check.due("splice(599, 1) of none", t.splice(599, 1), TapeEnds.NOT_POSSIBLE);
        Check.due("splice(598, 1) of none", t.splice(598, 1), 598);
        Check.due("splice(598, 1) of 598 feet", t.splice(598, 1), TapeEnds.BAD_VALUE);
        Check.due("splice(0, 1) of none", t.splice(0, 1), 596);
    }

    private static void oneFootMore() {
        Check.sentence("Splices: the feet that are taken out are the bad ones and 1 more; 9: Returns LENGTH then");
        for (int bad : new int[] {1, 2, 25, 49, 50}) {
            TapeEnds t = example();
            Check.due("splice(100, " + bad + ")", t.splice(100, bad), 300 - bad - 1);
            Check.due("LENGTH", t.count(0), 300 - bad - 1);
            Check.due("the gap", t.count(4), 176 - bad - 1);
        }
        for (int bad : new int[] {1, 2, 27, 28}) {
            TapeEnds t = example();
            Check.due("splice(3, " + bad + ")", t.splice(3, bad), 300 - bad - 1);
            Check.due("the data", t.ofBlock(0, 0, 0), 30 - bad - 1);
            Check.due("the gap stays", t.count(4), 176);
        }
    }

    private static void withinDataOfFileZero() {
        Check.sentence("9: they have to be, with the one more behind them, within the data of one block (the file 0)");
        due(2, 1, TapeEnds.NOT_POSSIBLE);
        due(3, 1, 298);
        due(31, 1, 298);
        due(32, 1, TapeEnds.NOT_POSSIBLE);
        due(20, 12, 287);
        due(20, 13, TapeEnds.NOT_POSSIBLE);
        due(38, 1, TapeEnds.NOT_POSSIBLE);
        due(39, 1, 298);
        due(57, 1, 298);
        due(58, 1, TapeEnds.NOT_POSSIBLE);
        due(59, 1, TapeEnds.NOT_POSSIBLE);
    }

    private static void withinDataOfFileOne() {
        Check.sentence("9: they have to be, with the one more behind them, within the data of one block (the file 1)");
        due(256, 1, TapeEnds.NOT_POSSIBLE);
        due(257, 1, 298);
        due(295, 1, 298);
        due(296, 1, TapeEnds.NOT_POSSIBLE);
        due(280, 16, 283);
        due(280, 17, TapeEnds.NOT_POSSIBLE);
        due(240, 1, TapeEnds.NOT_POSSIBLE);
        due(241, 1, 298);
        due(249, 1, 298);
        due(250, 1, TapeEnds.NOT_POSSIBLE);
        due(298, 1, TapeEnds.NOT_POSSIBLE);
    }

    private static void notOverTwoBlocks() {
        Check.sentence("9: within the data of ONE block, or within the gap (not over marks, blocks, or into the gap)");
        due(33, 5, TapeEnds.NOT_POSSIBLE);
        due(30, 10, TapeEnds.NOT_POSSIBLE);
        due(33, 1, TapeEnds.NOT_POSSIBLE);
        due(58, 5, TapeEnds.NOT_POSSIBLE);
        due(230, 15, TapeEnds.NOT_POSSIBLE);
        due(248, 12, TapeEnds.NOT_POSSIBLE);
    }

    private static void withinGap() {
        Check.sentence("9: they have to be, with the one more behind them, within the gap");
        due(61, 1, TapeEnds.NOT_POSSIBLE);
        due(62, 1, 298);
        due(62, 50, 249);
        due(236, 1, 298);
        due(237, 1, TapeEnds.NOT_POSSIBLE);
        due(187, 50, 249);
        due(188, 50, TapeEnds.NOT_POSSIBLE);
    }

    private static void gapOfEmptyTape() {
        Check.sentence("9: within the gap (which reaches to the ends of the tape where a file has no block)");
        TapeEnds t = new TapeEnds();
        t.length(100);
        Check.due("splice(98, 2)", t.splice(98, 2), TapeEnds.NOT_POSSIBLE);
        Check.due("splice(97, 2)", t.splice(97, 2), 97);
        Check.due("splice(0, 2)", t.splice(0, 2), 94);
    }

    private static void placeOfCutBlockIsGap() {
        Check.sentence("Tape: the gap are the feet between both files (also where a block was before it was cut off)");
        for (int file : FILES) {
            TapeEnds t = example();
            t.cut(file, 0);
            int foot = file == 0 ? 5 : 260;
            Check.due("splice(" + foot + ", 3)", t.splice(foot, 3), 296);
            Check.due("the gap", t.count(4), 238 - 4);
            t.cut(1 - file, 0);
            Check.due("splice(" + foot + ", 35)", t.splice(foot, 35), 260);
            Check.due("the gap", t.count(4), 260);
        }
        TapeEnds t = example();
        t.cut(0, 1);
        Check.due("splice(35, 1)", t.splice(35, 1), TapeEnds.NOT_POSSIBLE);
        Check.due("splice(36, 1)", t.splice(36, 1), 298);
        Check.due("splice(39, 19) where 20 feet of data were", t.splice(39, 19), 278);
        Check.due("the sums", t.ofFile(0, 4), 11);
        Check.due("the data", t.ofFile(0, 2), 30);
    }

    private static void someDataHasToStay() {
        Check.sentence("9: NOT_POSSIBLE if a block would have no data then");
        due(3, 29, TapeEnds.NOT_POSSIBLE);
        due(3, 28, 271);
        due(4, 28, 271);
        due(241, 9, TapeEnds.NOT_POSSIBLE);
        due(241, 8, 291);
        for (int data = 1; data <= 4; data++) {
            for (int file : FILES) {
                TapeEnds t = new TapeEnds();
                t.write(file, data, 5);
                int foot = t.ofBlock(file, 0, 3) + 2;
                Check.due("1 bad foot of " + data, t.splice(foot, 1), data < 3 ? TapeEnds.NOT_POSSIBLE : 598);
                Check.due("data of " + data, t.ofBlock(file, 0, 0), data < 3 ? data : data - 2);
            }
        }
    }

    private static void gapHasToStay() {
        Check.sentence("9: NOT_POSSIBLE if the gap would be less than GAP");
        for (int least : new int[] {1, 10, 49, 97, 98}) {
            TapeEnds t = new TapeEnds();
            t.length(100);
            t.tune(least, 2);
            int most = 100 - least - 1;
            int bad = Math.min(50, most);
            if (most < 50) {
                Check.due("GAP " + least + ": one too many", t.splice(0, most + 1), TapeEnds.NOT_POSSIBLE);
            }
            Check.due("GAP " + least + ": just so many", t.splice(0, bad), 100 - bad - 1);
        }
        TapeEnds t = new TapeEnds();
        t.length(100);
        t.tune(99, 2);
        Check.due("GAP 99 of 100 feet", t.splice(50, 1), TapeEnds.NOT_POSSIBLE);
    }

    private static void gapMayBeSmallForData() {
        Check.sentence("Splices: within a block its data feet become fewer (a gap of just GAP is not in the way)");
        TapeEnds t = new TapeEnds();
        t.length(100);
        t.write(0, 86, 7);
        Check.due("the gap", t.count(4), 10);
        Check.due("splice in data", t.splice(2, 5), 94);
        Check.due("the gap stays", t.count(4), 10);
        Check.due("splice in the gap", t.splice(86, 1), TapeEnds.NOT_POSSIBLE);
    }

    private static void sumIsLost() {
        Check.sentence("Splices: it loses its sum: that becomes 0");
        int[][] cases = {{3, 0, 0}, {39, 0, 1}, {257, 1, 0}, {241, 1, 1}, {100, -1, -1}};
        int[][] sums = {{11, 22}, {33, 44}};
        for (int[] spliced : cases) {
            TapeEnds t = example();
            t.splice(spliced[0], 1);
            for (int file : FILES) {
                for (int block = 0; block < 2; block++) {
                    boolean lost = file == spliced[1] && block == spliced[2];
                    int data = new int[][] {{30, 20}, {40, 10}}[file][block];
                    Check.due("a sum after splice(" + spliced[0] + ", 1)", t.ofBlock(file, block, 1),
                        lost ? 0 : sums[file][block]);
                    Check.due("data after splice(" + spliced[0] + ", 1)", t.ofBlock(file, block, 0),
                        lost ? data - 2 : data);
                }
            }
        }
    }

    private static void onlyDataAndSumChange() {
        Check.sentence("Splices: within a block its data feet become fewer (its marks and how often it was read stay)");
        for (int file : FILES) {
            TapeEnds t = example();
            t.read(file, 1, 0);
            t.read(file, 1, 1);
            t.read(file, 1, 0);
            int data = t.ofBlock(file, 1, 0);
            t.splice(t.ofBlock(file, 1, 3) + 3, 1);
            Check.due("data", t.ofBlock(file, 1, 0), data - 2);
            Check.due("whole length", t.ofBlock(file, 1, 2), data - 2 + 6);
            Check.due("how often", t.ofBlock(file, 1, 5), 3);
            Check.due("so far", t.count(9), 3);
            Check.due("GAP and MARK", t.count(1) + 100 * t.count(2), 310);
        }
    }

    private static void nineSplices() {
        Check.sentence("9: TOO_MANY if there are 9 splices; Splices: There can be up to 9 splices");
        TapeEnds t = example();
        for (int i = 1; i <= 9; i++) {
            int[] gapAndBothFiles = {100, 3, t.ofBlock(1, 0, 3) + 3};
            Check.due("the splice " + i, t.splice(gapAndBothFiles[i % 3], 1), 300 - 2 * i);
            Check.due("splices", t.count(6), i);
        }
        Check.due("the tenth, in the gap", t.splice(100, 1), TapeEnds.TOO_MANY);
        Check.due("the tenth, in data", t.splice(3, 1), TapeEnds.TOO_MANY);
        Check.due("splices", t.count(6), 9);
    }

    private static void nineAgainAfterUndo() {
        Check.sentence("9: TOO_MANY if there ARE 9 splices (one that was undone is none)");
        TapeEnds t = new TapeEnds();
        for (int i = 1; i <= 9; i++) {
            t.splice(5, 1);
        }
        Check.due("the tenth", t.splice(5, 1), TapeEnds.TOO_MANY);
        t.undo();
        Check.due("the ninth again", t.splice(5, 1), 582);
        Check.due("the tenth again", t.splice(5, 1), TapeEnds.TOO_MANY);
    }

    private static void higherFeetMoveDown() {
        Check.sentence("Splices: All that lies at higher feet moves down");
        int[][] footFirstMoved = {{3, 1}, {39, 2}, {100, 2}, {241, 3}, {257, 4}};
        int[][] blocks = {{0, 0, 0, 36}, {0, 1, 36, 62}, {1, 1, 238, 254}, {1, 0, 254, 300}};
        for (int[] spliced : footFirstMoved) {
            TapeEnds t = example();
            t.splice(spliced[0], 4);
            for (int i = 0; i < blocks.length; i++) {
                int[] b = blocks[i];
                boolean within = spliced[0] >= b[2] && spliced[0] < b[3];
                String block = "block " + b[0] + "." + b[1] + " after splice(" + spliced[0] + ", 4): ";
                int moved = i >= spliced[1] ? 5 : 0;
                Check.due(block + "lower", t.ofBlock(b[0], b[1], 3), b[2] - moved);
                Check.due(block + "upper", t.ofBlock(b[0], b[1], 4), b[3] - (within ? 5 : moved));
            }
        }
    }

    private static void headIsMoved() {
        Check.sentence("Splices: the head stays at its foot, but moves down as well if it is behind the place, by as many "
            + "feet as were taken out ahead of it");
        for (int head = 95; head <= 115; head++) {
            TapeEnds t = example();
            t.move(head);
            int travel = t.count(8);
            t.splice(100, 9);
            Check.due("the head at " + head, t.count(3), head <= 100 ? head : head <= 110 ? 100 : head - 10);
            Check.due("the travel", t.count(8), travel);
        }
    }

    private static void headInsideBlockAndAtEnd() {
        Check.sentence("Splices: the head moves down (in a block, and at LENGTH)");
        int[][] footHeadThen = {{10, 10, 10}, {10, 11, 10}, {10, 13, 10}, {10, 14, 11}, {10, 300, 297},
            {260, 259, 259}, {260, 263, 260}, {260, 300, 297}, {200, 0, 0}, {200, 300, 297}};
        for (int[] w : footHeadThen) {
            TapeEnds t = example();
            t.move(w[1]);
            t.splice(w[0], 2);
            Check.due("splice(" + w[0] + ", 2) with the head at " + w[1], t.count(3), w[2]);
        }
        TapeEnds t = new TapeEnds();
        t.move(600);
        t.splice(549, 50);
        Check.due("the last feet, with the head at LENGTH", t.count(3), 549);
        Check.due("that is LENGTH", t.count(0), 549);
    }

    private static void belowHundredFeet() {
        Check.sentence("Splices: LENGTH becomes less by the feet that are taken out (also to less than 100)");
        TapeEnds t = new TapeEnds();
        t.length(100);
        Check.due("splice(5, 50)", t.splice(5, 50), 49);
        Check.due("LENGTH", t.count(0), 49);
        Check.due("at(48)", t.at(48), 0);
        Check.due("at(49)", t.at(49), TapeEnds.BAD_VALUE);
        Check.due("move(49)", t.move(49), 49);
        Check.due("length(100)", t.length(100), TapeEnds.NOT_POSSIBLE);
    }

    private static void feetTakenOut() {
        Check.sentence("13: 6 splices, 7 the feet that splices took out");
        TapeEnds t = example();
        int out = 0;
        for (int bad = 1; bad <= 9; bad++) {
            t.splice(100, bad);
            out += bad + 1;
            Check.due("splices", t.count(6), bad);
            Check.due("feet", t.count(7), out);
        }
        t.splice(100, 1);
        Check.due("feet, refused", t.count(7), out);
    }
}
