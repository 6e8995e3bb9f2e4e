/** Promises 10 to 16: what there is, and what if. */
public final class AnswersTest {
    public static void main(String[] args) {
        ofFile();
        ofBlock();
        at();
        count();
        fits();
        rooms();
        nearest();
        nearestOfSeveral();
        nothingChanges();
        Check.end();
    }

    private static TapeEnds example() {
        TapeEnds t = new TapeEnds();
        t.length(300);
        t.write(0, 10, 5);
        t.write(1, 20, 6);
        t.tune(7, 3);
        t.write(0, 30, 700);
        t.write(1, 40, 8000);
        return t;
    }

    private static void ofFile() {
        TapeEnds t = example();
        int[][] wants = {{2, 50, 40, 50, 705}, {2, 70, 60, 230, 8006}};
        for (int file = 0; file < 2; file++) {
            for (int what = 0; what <= 4; what++) {
                Check.due("ofFile(" + file + ", " + what + ")", t.ofFile(file, what), wants[file][what]);
            }
        }
        Check.due("ofFile(-1, 0)", t.ofFile(-1, 0), TapeEnds.NO_SUCH);
        Check.due("ofFile(2, 9)", t.ofFile(2, 9), TapeEnds.NO_SUCH);
        Check.due("ofFile(0, -1)", t.ofFile(0, -1), TapeEnds.BAD_VALUE);
        Check.due("ofFile(1, 5)", t.ofFile(1, 5), TapeEnds.BAD_VALUE);
        t.cut(1, 0);
        int[] empty = {0, 0, 0, 300, 0};
        for (int what = 0; what <= 4; what++) {
            Check.due("ofFile(1, " + what + ") of none", t.ofFile(1, what), empty[what]);
        }
    }

    private static void ofBlock() {
        TapeEnds t = example();
        t.read(1, 0, 0);
        t.read(1, 0, 1);
        t.read(0, 1, 0);
        t.move(60);
        int[][] wants = {
            {10, 5, 14, 0, 14, 0, 74, 60}, {30, 700, 36, 14, 50, 1, 82, 46},
            {20, 6, 24, 276, 300, 2, 264, 240}, {40, 8000, 46, 230, 276, 0, 262, 216}};
        for (int row = 0; row < 4; row++) {
            for (int what = 0; what <= 7; what++) {
                String call = "ofBlock(" + row / 2 + ", " + row % 2 + ", " + what + ")";
                Check.due(call, t.ofBlock(row / 2, row % 2, what), wants[row][what]);
            }
        }
        Check.due("ofBlock(-1, 0, 0)", t.ofBlock(-1, 0, 0), TapeEnds.NO_SUCH);
        Check.due("ofBlock(2, 0, 0)", t.ofBlock(2, 0, 0), TapeEnds.NO_SUCH);
        Check.due("ofBlock(0, -1, 0)", t.ofBlock(0, -1, 0), TapeEnds.NO_SUCH);
        Check.due("ofBlock(0, 2, 9)", t.ofBlock(0, 2, 9), TapeEnds.NO_SUCH);
        Check.due("ofBlock(1, 20, 0)", t.ofBlock(1, 20, 0), TapeEnds.NO_SUCH);
        Check.due("ofBlock(0, 0, -1)", t.ofBlock(0, 0, -1), TapeEnds.BAD_VALUE);
        Check.due("ofBlock(0, 0, 8)", t.ofBlock(0, 0, 8), TapeEnds.BAD_VALUE);
        t.cut(0, 1);
        Check.due("ofBlock of one that was cut", t.ofBlock(0, 1, 0), TapeEnds.NO_SUCH);
    }

    private static void at() {
        TapeEnds t = example();
        int[] boundaries = {2, 12, 14, 17, 47, 50, 230, 233, 273, 276, 278, 298, 300};
        int[] kinds = {1, 2, 1, 1, 2, 1, 0, 11, 12, 11, 11, 12, 11};
        int part = 0;
        for (int foot = 0; foot < 300; foot++) {
            if (foot == boundaries[part]) {
                part++;
            }
            Check.due("at(" + foot + ")", t.at(foot), kinds[part]);
        }
        Check.due("at(-1)", t.at(-1), TapeEnds.BAD_VALUE);
        Check.due("at(300)", t.at(300), TapeEnds.BAD_VALUE);
        TapeEnds empty = new TapeEnds();
        Check.due("at(0) of none", empty.at(0), 0);
        Check.due("at(599) of none", empty.at(599), 0);
        Check.due("at(600) of none", empty.at(600), TapeEnds.BAD_VALUE);
    }

    private static void count() {
        TapeEnds t = example();
        t.splice(100, 3);
        t.read(0, 0, 0);
        t.move(33);
        Check.put(t, "x;m");
        int travel = (14) + (286 + 24) + (276 - 14 + 36) + (276 - 50 + 46) + 226 + 14 + 19;
        Check.counts(t, "count", 296, 7, 3, 33, 176, 4, 1, 4, travel, 1, 3, 6);
        Check.due("count(-1)", t.count(-1), TapeEnds.BAD_VALUE);
        Check.due("count(12)", t.count(12), TapeEnds.BAD_VALUE);
    }

    private static void fits() {
        TapeEnds t = new TapeEnds();
        Check.due("fits(0)", t.fits(0), 99);
        Check.due("fits(1)", t.fits(1), 99);
        Check.due("fits(2)", t.fits(2), TapeEnds.NO_SUCH);
        Check.due("fits(-1)", t.fits(-1), TapeEnds.NO_SUCH);
        t.length(113);
        Check.due("fits: 99 of 113", t.fits(0), 99);
        t.length(112);
        Check.due("fits: 98 of 112", t.fits(1), 98);
        t.write(0, 93, 0);
        Check.due("fits: 1", t.fits(1), 1);
        t.tune(11, 2);
        Check.due("fits: 0", t.fits(1), 0);
        t.tune(15, 9);
        Check.due("fits: not below 0", t.fits(0), 0);
        t = new TapeEnds();
        for (int block = 0; block < 20; block++) {
            t.write(0, 1, 0);
        }
        Check.due("fits: the file has 20 blocks", t.fits(0), 0);
        Check.due("fits: the other one", t.fits(1), 99);
    }

    private static void rooms() {
        TapeEnds t = new TapeEnds();
        Check.due("rooms(99)", t.rooms(99), 5);
        Check.due("rooms(55)", t.rooms(55), 10);
        Check.due("rooms(56)", t.rooms(56), 9);
        Check.due("rooms(1)", t.rooms(1), 40);
        Check.due("rooms(0)", t.rooms(0), TapeEnds.BAD_VALUE);
        Check.due("rooms(100)", t.rooms(100), TapeEnds.BAD_VALUE);
        t.write(0, 1, 0);
        t.write(1, 1, 0);
        t.write(1, 1, 0);
        Check.due("rooms(1) with 3 blocks", t.rooms(1), 37);
        Check.due("rooms(99) with 3 blocks", t.rooms(99), 5);
        t.length(100);
        t = new TapeEnds();
        t.length(100);
        t.tune(99, 1);
        Check.due("rooms: none", t.rooms(1), 0);
        t.tune(97, 1);
        Check.due("rooms: one", t.rooms(1), 1);
        Check.due("rooms: none with more data", t.rooms(2), 0);
    }

    private static void dueNearest(TapeEnds t, int file, int block, int backwards, int travel) {
        int[] wants = {file, block, backwards, travel};
        for (int what = 0; what <= 3; what++) {
            Check.due("nearest(" + what + ") from " + t.count(3), t.nearest(what), wants[what]);
        }
    }

    private static void nearest() {
        TapeEnds t = new TapeEnds();
        Check.due("nearest(-1)", t.nearest(-1), TapeEnds.BAD_VALUE);
        Check.due("nearest(4)", t.nearest(4), TapeEnds.BAD_VALUE);
        for (int what = 0; what <= 3; what++) {
            Check.due("nearest of none", t.nearest(what), TapeEnds.NONE);
        }
        t.length(200);
        t.write(1, 20, 0);
        t.move(0);
        dueNearest(t, 1, 0, 1, 200);
        t.write(0, 30, 0);
        t.write(0, 10, 0);
        t.move(34);
        dueNearest(t, 0, 1, 0, 14);
        t.move(48);
        dueNearest(t, 0, 1, 1, 14);
        t.move(200);
        dueNearest(t, 1, 0, 0, 24);
        t.move(170);
        dueNearest(t, 1, 0, 1, 30);
        t.cut(0, 0);
        t.move(0);
        dueNearest(t, 1, 0, 1, 200);
    }

    private static void nearestOfSeveral() {
        TapeEnds t = new TapeEnds();
        t.length(100);
        t.write(1, 6, 0);
        t.write(0, 6, 0);
        t.move(50);
        dueNearest(t, 0, 0, 1, 50);
        t.move(51);
        dueNearest(t, 1, 0, 1, 49);
        t.write(0, 6, 0);
        t.move(10);
        dueNearest(t, 0, 0, 1, 10);
        t.move(5);
        dueNearest(t, 0, 0, 0, 15);
        t.cut(0, 0);
        t.move(95);
        dueNearest(t, 1, 0, 0, 15);
    }

    private static void nothingChanges() {
        TapeEnds t = example();
        String before = Check.state(t);
        t.fits(0);
        t.rooms(5);
        t.nearest(0);
        t.at(5);
        t.fault();
        Check.same("what if", Check.state(t), before);
    }
}
