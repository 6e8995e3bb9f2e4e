/** Promises 1 to 9: a new object, and the changes of the tape. */
public final class ChangesTest {
    public static void main(String[] args) {
        newObject();
        length();
        tune();
        write();
        writeMovesHead();
        writeLimits();
        cut();
        move();
        rewind();
        read();
        splice();
        spliceMovesHead();
        spliceInFileOne();
        spliceLimits();
        errorOrder();
        Check.end();
    }

    private static void newObject() {
        TapeEnds t = new TapeEnds();
        Check.counts(t, "new", 600, 10, 2, 0, 600, 0, 0, 0, 0, 0, 0, 0);
        for (int file = 0; file < 2; file++) {
            Check.due("new: blocks", t.ofFile(file, 0), 0);
            Check.due("new: feet", t.ofFile(file, 1), 0);
            Check.due("new: end", t.ofFile(file, 3), file * 600);
        }
        Check.due("new: undo", t.undo(), TapeEnds.NOT_POSSIBLE);
        Check.due("new: restore 0", t.restore(0), TapeEnds.NOT_POSSIBLE);
        Check.due("new: restore 1", t.restore(1), TapeEnds.NOT_POSSIBLE);
        new TapeEnds().write(0, 5, 5);
        Check.due("new: objects share nothing", t.count(5), 0);
    }

    private static void length() {
        TapeEnds t = new TapeEnds();
        Check.due("length(100)", t.length(100), 600);
        Check.due("length(2000)", t.length(2000), 100);
        Check.counts(t, "length", 2000, 10, 2, 0, 2000, 0, 0, 0, 0, 0, 0, 2);
        String before = Check.state(t);
        Check.due("length(99)", t.length(99), TapeEnds.BAD_VALUE);
        Check.due("length(2001)", t.length(2001), TapeEnds.BAD_VALUE);
        Check.due("length(-600)", t.length(-600), TapeEnds.BAD_VALUE);
        Check.same("length, wrong", Check.state(t), before);
        t.move(700);
        Check.due("length(701)", t.length(701), 2000);
        Check.due("the head stays", t.count(3), 700);
        Check.due("length(699)", t.length(699), 701);
        Check.due("the head is at the end", t.count(3), 699);
        Check.due("that is no travel", t.count(8), 700);
        for (int file = 0; file < 2; file++) {
            t.write(file, 1, 0);
            Check.due("length with a block", t.length(300), TapeEnds.NOT_POSSIBLE);
            Check.due("length, out of range first", t.length(3), TapeEnds.BAD_VALUE);
            t.cut(file, 0);
            Check.due("length after cut", t.length(699), 699);
        }
        t.splice(50, 1);
        Check.due("length with a splice", t.length(300), TapeEnds.NOT_POSSIBLE);
        t.undo();
        Check.due("length with no splice again", t.length(300), 699);
    }

    private static void tune() {
        TapeEnds t = new TapeEnds();
        Check.due("tune(99, 9)", t.tune(99, 9), 210);
        Check.due("tune(1, 1)", t.tune(1, 1), 999);
        Check.due("tune(1, 3)", t.tune(1, 3), 101);
        Check.due("tune: GAP", t.count(1), 1);
        Check.due("tune: MARK", t.count(2), 3);
        String before = Check.state(t);
        int[][] wrong = {{0, 1}, {100, 1}, {1, 0}, {1, 10}, {-5, 5}, {5, -5}};
        for (int[] pair : wrong) {
            Check.due("tune(" + pair[0] + ", " + pair[1] + ")", t.tune(pair[0], pair[1]), TapeEnds.BAD_VALUE);
        }
        Check.same("tune, wrong", Check.state(t), before);
        t.length(100);
        t.write(0, 40, 1);
        t.tune(1, 5);
        t.write(1, 20, 2);
        Check.due("tune: the mark of an old block", t.ofBlock(0, 0, 2), 46);
        Check.due("tune: the mark of a new block", t.ofBlock(1, 0, 2), 30);
        Check.due("tune: the gap", t.count(4), 24);
        Check.due("tune(25, 1)", t.tune(25, 1), TapeEnds.NOT_POSSIBLE);
        Check.due("tune(24, 1)", t.tune(24, 1), 501);
    }

    private static void write() {
        TapeEnds t = new TapeEnds();
        Check.due("write(0, 10, 77)", t.write(0, 10, 77), 0);
        Check.due("write(0, 99, 9999)", t.write(0, 99, 9999), 1);
        Check.due("write(1, 1, 0)", t.write(1, 1, 0), 0);
        Check.due("data", t.ofBlock(0, 1, 0), 99);
        Check.due("sum", t.ofBlock(0, 1, 1), 9999);
        Check.due("data of the file 1", t.ofBlock(1, 0, 0), 1);
        Check.due("sum of the file 1", t.ofBlock(1, 0, 1), 0);
        String before = Check.state(t);
        Check.due("write(2, 1, 0)", t.write(2, 1, 0), TapeEnds.NO_SUCH);
        Check.due("write(-1, 1, 0)", t.write(-1, 1, 0), TapeEnds.NO_SUCH);
        Check.due("write(0, 0, 0)", t.write(0, 0, 0), TapeEnds.BAD_VALUE);
        Check.due("write(0, 100, 0)", t.write(0, 100, 0), TapeEnds.BAD_VALUE);
        Check.due("write(0, 1, -1)", t.write(0, 1, -1), TapeEnds.BAD_VALUE);
        Check.due("write(0, 1, 10000)", t.write(0, 1, 10000), TapeEnds.BAD_VALUE);
        Check.same("write, wrong", Check.state(t), before);
        t.read(0, 1, 0);
        t.cut(0, 1);
        t.write(0, 3, 4);
        Check.due("a new block was never read", t.ofBlock(0, 1, 5), 0);
    }

    private static void writeMovesHead() {
        TapeEnds t = new TapeEnds();
        t.move(100);
        t.write(0, 10, 0);
        Check.due("write(0): the head", t.count(3), 14);
        Check.due("write(0): travel", t.count(8), 100 + 100 + 14);
        t.write(1, 20, 0);
        Check.due("write(1): the head", t.count(3), 576);
        Check.due("write(1): travel", t.count(8), 214 + 586 + 24);
        t.write(1, 6, 0);
        Check.due("write(1) again: the head", t.count(3), 566);
        Check.due("write(1) again: travel", t.count(8), 824 + 10);
    }

    private static void writeLimits() {
        TapeEnds t = new TapeEnds();
        t.length(100);
        Check.due("write: one foot too much", t.write(0, 87, 0), TapeEnds.NOT_POSSIBLE);
        Check.due("write: the gap is GAP then", t.write(0, 86, 0), 0);
        Check.due("write: the gap", t.count(4), 10);
        t = new TapeEnds();
        t.length(2000);
        for (int file = 0; file < 2; file++) {
            for (int block = 0; block < 20; block++) {
                Check.due("write: number", t.write(file, 1, block), block);
            }
            Check.due("write: the 21st", t.write(file, 1, 0), TapeEnds.TOO_MANY);
        }
        Check.due("write: all blocks", t.count(5), 40);
        t = new TapeEnds();
        t.length(110);
        for (int block = 0; block < 20; block++) {
            t.write(0, 1, 0);
        }
        Check.due("write: 20 of 5 feet", t.count(4), 10);
        Check.due("write: too many ahead of not possible", t.write(0, 1, 0), TapeEnds.TOO_MANY);
    }

    private static void cut() {
        TapeEnds t = new TapeEnds();
        for (int block = 0; block < 4; block++) {
            t.write(0, 10 + block, block);
        }
        t.write(1, 5, 5);
        int head = t.count(3);
        int travel = t.count(8);
        Check.due("cut(0, 4)", t.cut(0, 4), 0);
        Check.due("cut(0, 1)", t.cut(0, 1), 3);
        Check.due("cut: blocks", t.ofFile(0, 0), 1);
        Check.due("cut: the first stays", t.ofBlock(0, 0, 0), 10);
        Check.due("cut: the gap", t.count(4), 600 - 14 - 9);
        Check.due("cut: the head stays", t.count(3), head);
        Check.due("cut: no travel", t.count(8), travel);
        Check.due("cut: the other file stays", t.ofFile(1, 0), 1);
        String before = Check.state(t);
        Check.due("cut(2, 0)", t.cut(2, 0), TapeEnds.NO_SUCH);
        Check.due("cut(-1, 0)", t.cut(-1, 0), TapeEnds.NO_SUCH);
        Check.due("cut(0, -1)", t.cut(0, -1), TapeEnds.BAD_VALUE);
        Check.due("cut(0, 2)", t.cut(0, 2), TapeEnds.NOT_POSSIBLE);
        Check.due("cut(0, max)", t.cut(0, Integer.MAX_VALUE), TapeEnds.NOT_POSSIBLE);
        Check.same("cut, wrong", Check.state(t), before);
        Check.due("cut(1, 0)", t.cut(1, 0), 1);
        Check.due("cut(1, 0) again", t.cut(1, 0), 0);
    }

    private static void move() {
        TapeEnds t = new TapeEnds();
        Check.due("move(600)", t.move(600), 600);
        Check.due("move(600) again", t.move(600), 0);
        Check.due("move(450)", t.move(450), 150);
        Check.due("move(0)", t.move(0), 450);
        Check.counts(t, "move", 600, 10, 2, 0, 600, 0, 0, 0, 1200, 0, 0, 4);
        Check.due("move(-1)", t.move(-1), TapeEnds.BAD_VALUE);
        Check.due("move(601)", t.move(601), TapeEnds.BAD_VALUE);
        Check.counts(t, "move, wrong", 600, 10, 2, 0, 600, 0, 0, 0, 1200, 0, 0, 4);
    }

    private static void rewind() {
        TapeEnds t = new TapeEnds();
        t.length(101);
        t.move(50);
        Check.due("rewind from 50 of 101", t.rewind(), 0);
        t.move(51);
        Check.due("rewind from 51 of 101", t.rewind(), 101);
        Check.due("rewind: the head", t.count(3), 101);
        Check.due("rewind: travel", t.count(8), 50 + 50 + 51 + 50);
        Check.due("rewind at the end", t.rewind(), 101);
        t.length(100);
        t.move(50);
        Check.due("rewind from the middle", t.rewind(), 0);
        Check.due("rewind is a change", t.count(11), 6);
    }

    private static void read() {
        TapeEnds t = new TapeEnds();
        t.write(0, 10, 17);
        t.write(0, 20, 28);
        t.write(1, 30, 39);
        t.write(1, 40, 46);
        t.move(0);
        int travel = t.count(8);
        Check.due("read(0, 1, 0)", t.read(0, 1, 0), 9);
        Check.due("read(0, 1, 0): the head", t.count(3), 38);
        Check.due("read(0, 1, 0): travel", t.count(8) - travel, 38);
        Check.due("read(0, 1, 1)", t.read(0, 1, 1), 0);
        Check.due("read(0, 1, 1): the head", t.count(3), 14);
        Check.due("read(1, 1, 0)", t.read(1, 1, 0), 7);
        Check.due("read(1, 1, 0): the head", t.count(3), 522);
        Check.due("read(1, 1, 0): travel", t.count(8) - travel, 38 + 24 + 552 + 44);
        Check.due("read(1, 1, 1)", t.read(1, 1, 1), 8);
        Check.due("read(1, 1, 1): the head", t.count(3), 566);
        Check.due("read(1, 0, 1)", t.read(1, 0, 1), 0);
        Check.due("read(1, 0, 1): the head", t.count(3), 600);
        Check.due("read: how often", t.ofBlock(0, 1, 5), 2);
        Check.due("read: how often, file 1", t.ofBlock(1, 1, 5), 2);
        Check.due("read: never", t.ofBlock(0, 0, 5), 0);
        Check.due("read: all", t.count(9), 5);
        String before = Check.state(t);
        int[][] none = {{2, 0, 0}, {-1, 0, 0}, {0, 2, 0}, {1, 2, 0}, {0, -1, 0}, {0, 20, 0}, {1, -1, 5}};
        for (int[] a : none) {
            Check.due("read: no such", t.read(a[0], a[1], a[2]), TapeEnds.NO_SUCH);
        }
        Check.due("read(0, 0, 2)", t.read(0, 0, 2), TapeEnds.BAD_VALUE);
        Check.due("read(0, 0, -1)", t.read(0, 0, -1), TapeEnds.BAD_VALUE);
        Check.same("read, wrong", Check.state(t), before);
        t.cut(0, 0);
        Check.due("read: those that were cut count", t.count(9), 5);
    }

    private static void splice() {
        TapeEnds t = new TapeEnds();
        t.write(0, 20, 11);
        t.write(0, 30, 22);
        t.move(0);
        int travel = t.count(8);
        t.read(0, 1, 0);
        Check.due("splice(26, 5)", t.splice(26, 5), 594);
        Check.due("splice: data", t.ofBlock(0, 1, 0), 24);
        Check.due("splice: the sum is lost", t.ofBlock(0, 1, 1), 0);
        Check.due("splice: how often it was read stays", t.ofBlock(0, 1, 5), 1);
        Check.due("splice: the other block stays", t.ofBlock(0, 0, 1), 11);
        Check.due("splice: the place", t.ofBlock(0, 1, 4), 52);
        Check.due("splice: the gap stays", t.count(4), 600 - 58);
        Check.due("splice: no travel", t.count(8), travel + 58);
        Check.due("splice(44, 5): up to the last data", t.splice(44, 5), 588);
        Check.due("splice(40, 4): into the mark", t.splice(40, 4), TapeEnds.NOT_POSSIBLE);
        Check.due("splice(25, 1): from the mark", t.splice(25, 1), TapeEnds.NOT_POSSIBLE);
        Check.due("splice(44, 1): within the mark", t.splice(44, 1), TapeEnds.NOT_POSSIBLE);
        Check.due("splice(45, 1): from the mark to the gap", t.splice(45, 1), TapeEnds.NOT_POSSIBLE);
        Check.due("splice(46, 1): the first gap", t.splice(46, 1), 586);
        Check.due("splice: sums stay in the gap", t.ofFile(0, 4), 11);
        Check.due("splice: splices", t.count(6), 3);
        Check.due("splice: feet", t.count(7), 14);
        Check.due("splice(2, 19): no data", t.splice(2, 19), TapeEnds.NOT_POSSIBLE);
        Check.due("splice(2, 18): 1 foot of data", t.splice(2, 18), 567);
        Check.due("splice: 1 foot of data", t.ofBlock(0, 0, 0), 1);
        String before = Check.state(t);
        int[][] wrong = {{-1, 1}, {567, 1}, {100, 0}, {100, 51}, {100, -3}, {Integer.MAX_VALUE, 1}};
        for (int[] a : wrong) {
            Check.due("splice(" + a[0] + ", " + a[1] + ")", t.splice(a[0], a[1]), TapeEnds.BAD_VALUE);
        }
        Check.due("splice(566, 1): behind the tape", t.splice(566, 1), TapeEnds.NOT_POSSIBLE);
        Check.same("splice, wrong", Check.state(t), before);
        Check.due("splice(565, 1): the last feet", t.splice(565, 1), 565);
        Check.due("splice(100, 50)", t.splice(100, 50), 514);
    }

    private static void spliceMovesHead() {
        int[][] headThen = {{0, 0}, {100, 100}, {101, 100}, {105, 100}, {106, 100}, {107, 101}, {600, 594}};
        for (int[] pair : headThen) {
            TapeEnds t = new TapeEnds();
            t.move(pair[0]);
            t.splice(100, 5);
            Check.due("splice with the head at " + pair[0], t.count(3), pair[1]);
            Check.due("splice: travel", t.count(8), pair[0]);
        }
    }

    private static void spliceInFileOne() {
        TapeEnds t = new TapeEnds();
        t.write(1, 20, 1);
        t.write(1, 30, 2);
        t.write(1, 40, 3);
        Check.due("before: lower end of 2", t.ofBlock(1, 2, 3), 498);
        Check.due("splice(544, 3)", t.splice(544, 3), 596);
        Check.due("file 1: the block", t.ofBlock(1, 1, 0), 26);
        Check.due("file 1: its sum", t.ofBlock(1, 1, 1), 0);
        Check.due("file 1: its lower end stays", t.ofBlock(1, 1, 3), 542);
        Check.due("file 1: its upper end moves", t.ofBlock(1, 1, 4), 572);
        Check.due("file 1: the one at lower feet stays", t.ofBlock(1, 2, 3), 498);
        Check.due("file 1: the one at higher feet moves", t.ofBlock(1, 0, 3), 572);
        Check.due("file 1: the sums", t.ofFile(1, 4), 4);
        Check.due("splice(490, 7): up to the gap's end", t.splice(490, 7), 588);
        Check.due("splice(489, 1): into the file 1", t.splice(489, 1), TapeEnds.NOT_POSSIBLE);
        Check.due("file 1 moves", t.ofBlock(1, 2, 3), 490);
    }

    private static void spliceLimits() {
        TapeEnds t = new TapeEnds();
        t.length(100);
        t.tune(50, 1);
        t.write(0, 28, 9);
        Check.due("the gap", t.count(4), 70);
        Check.due("splice: less than GAP", t.splice(40, 20), TapeEnds.NOT_POSSIBLE);
        Check.due("splice: GAP", t.splice(40, 19), 80);
        Check.due("splice: GAP already", t.splice(40, 1), TapeEnds.NOT_POSSIBLE);
        for (int i = 0; i < 8; i++) {
            Check.due("splice in data", t.splice(1, 1), 78 - 2 * i);
        }
        Check.due("splice: the tenth", t.splice(1, 1), TapeEnds.TOO_MANY);
        Check.due("splice: not possible ahead of too many", t.splice(40, 1), TapeEnds.NOT_POSSIBLE);
        Check.due("splice: not within ahead of too many", t.splice(0, 1), TapeEnds.NOT_POSSIBLE);
        Check.due("splice: bad ahead of all", t.splice(1, 0), TapeEnds.BAD_VALUE);
        Check.due("splice: splices", t.count(6), 9);
        Check.due("splice: feet", t.count(7), 36);
        Check.due("splice: LENGTH", t.count(0), 64);
        Check.due("move(64) of a head that the splices moved", t.move(64), 64 - (30 - 16));
        Check.due("move(65)", t.move(65), TapeEnds.BAD_VALUE);
    }

    private static void errorOrder() {
        TapeEnds t = new TapeEnds();
        Check.due("write(2, 0, -1)", t.write(2, 0, -1), TapeEnds.NO_SUCH);
        Check.due("cut(2, -1)", t.cut(2, -1), TapeEnds.NO_SUCH);
        Check.due("read(0, 0, 2)", t.read(0, 0, 2), TapeEnds.NO_SUCH);
        for (int block = 0; block < 20; block++) {
            t.write(0, 1, 0);
        }
        Check.due("write: bad ahead of too many", t.write(0, 100, 0), TapeEnds.BAD_VALUE);
        t.cut(0, 0);
        Check.due("length: fine again", t.length(100), 600);
        t.write(0, 50, 0);
        Check.due("tune: bad ahead of not possible", t.tune(99, 0), TapeEnds.BAD_VALUE);
        Check.due("tune: not possible", t.tune(99, 1), TapeEnds.NOT_POSSIBLE);
    }
}
