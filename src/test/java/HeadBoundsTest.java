/** Promises 6 to 8 and the terms of the head, a test for each sentence that names a boundary. */
public final class HeadBoundsTest {
    private static final int[] FILES = {0, 1};

    public static void main(String[] args) {
        moveRange();
        moveOnShorterTape();
        moveTravel();
        rewindToNearerEnd();
        rewindOfShorterTape();
        rewindAtAnEnd();
        whereReadingEnds();
        travelOfReading();
        whatIsChecked();
        whatIsCheckedOfTheLast();
        readNoSuchBlock();
        readBackwardsIsZeroOrOne();
        readIsCounted();
        Check.end();
    }

    private static void moveRange() {
        Check.sentence("6: foot: 0 to LENGTH; Head: 0 (ahead of the first foot) to LENGTH (behind the last one)");
        for (int feet : new int[] {100, 600, 2000}) {
            TapeEnds t = new TapeEnds();
            t.length(feet);
            Check.due("at first", t.count(3), 0);
            Check.due("move(-1)", t.move(-1), TapeEnds.BAD_VALUE);
            Check.due("move(0)", t.move(0), 0);
            Check.due("move(LENGTH - 1)", t.move(feet - 1), feet - 1);
            Check.due("move(LENGTH)", t.move(feet), 1);
            Check.due("move(LENGTH + 1)", t.move(feet + 1), TapeEnds.BAD_VALUE);
            Check.due("the head", t.count(3), feet);
            Check.due("move(0) from LENGTH", t.move(0), feet);
            Check.due("move(LENGTH) from 0", t.move(feet), feet);
        }
    }

    private static void moveOnShorterTape() {
        Check.sentence("Splices: LENGTH becomes less; 6: BAD_VALUE if foot is out of range");
        TapeEnds t = new TapeEnds();
        t.splice(300, 9);
        Check.due("move(591) of 590 feet", t.move(591), TapeEnds.BAD_VALUE);
        Check.due("move(590) of 590 feet", t.move(590), 590);
        t.undo();
        t.undo();
        Check.due("move(600) when it is undone", t.move(600), 600);
    }

    private static void moveTravel() {
        Check.sentence("6: Returns the feet of travel that this takes; Head: as many feet of travel");
        TapeEnds t = new TapeEnds();
        int[] feet = {1, 0, 0, 300, 299, 600, 600, 1};
        int[] ways = {1, 1, 0, 300, 1, 301, 0, 599};
        int travel = 0;
        for (int i = 0; i < feet.length; i++) {
            Check.due("move(" + feet[i] + ")", t.move(feet[i]), ways[i]);
            travel += ways[i];
            Check.due("the travel so far", t.count(8), travel);
            Check.due("the head", t.count(3), feet[i]);
            Check.due("a change, also over no foot", t.count(11), Math.min(6, i + 1));
        }
    }

    private static void dueRewind(TapeEnds t, int from, int to) {
        t.move(from);
        int travel = t.count(8);
        Check.due("rewind() from " + from, t.rewind(), to);
        Check.due("rewind() from " + from + ": the head", t.count(3), to);
        Check.due("rewind() from " + from + ": the travel", t.count(8) - travel, Math.abs(from - to));
    }

    private static void rewindToNearerEnd() {
        Check.sentence("7: Moves the head to that end of the tape which is nearer, of both alike to 0");
        TapeEnds t = new TapeEnds();
        dueRewind(t, 299, 0);
        dueRewind(t, 300, 0);
        dueRewind(t, 301, 600);
        dueRewind(t, 599, 600);
        dueRewind(t, 1, 0);
        t.length(101);
        dueRewind(t, 50, 0);
        dueRewind(t, 51, 101);
    }

    private static void rewindOfShorterTape() {
        Check.sentence("7: that end of the tape which is nearer (LENGTH after a splice)");
        TapeEnds t = new TapeEnds();
        t.splice(500, 1);
        dueRewind(t, 299, 0);
        dueRewind(t, 300, 598);
        t.splice(500, 1);
        dueRewind(t, 298, 0);
        dueRewind(t, 299, 596);
    }

    private static void rewindAtAnEnd() {
        Check.sentence("7: Returns the foot at which it is then (there already: no travel, but a change)");
        TapeEnds t = new TapeEnds();
        dueRewind(t, 0, 0);
        dueRewind(t, 600, 600);
        Check.due("changes", t.count(11), 4);
        Check.due("the travel", t.count(8), 600);
    }

    private static TapeEnds twoFiles() {
        TapeEnds t = new TapeEnds();
        t.write(0, 10, 0);
        t.tune(10, 5);
        t.write(0, 20, 0);
        t.write(1, 40, 0);
        t.tune(10, 9);
        t.write(1, 30, 0);
        return t;
    }

    // The file, the block, and its lower and upper boundary in twoFiles().
    private static final int[][] PLACES = {{0, 0, 0, 14}, {0, 1, 14, 44}, {1, 0, 550, 600}, {1, 1, 502, 550}};

    private static void whereReadingEnds() {
        Check.sentence("Head: A file is read forwards if its blocks are passed from its first one on to higher numbers, "
            + "backwards the other way round; both of its marks belong to it");
        for (int[] place : PLACES) {
            TapeEnds t = twoFiles();
            boolean up = place[0] == 0;
            t.read(place[0], place[1], 0);
            Check.due("forwards", t.count(3), up ? place[3] : place[2]);
            t.read(place[0], place[1], 1);
            Check.due("backwards", t.count(3), up ? place[2] : place[3]);
        }
    }

    private static void travelOfReading() {
        Check.sentence("Head: first moved to the end of the block that is passed first by this way, then over it");
        for (int[] place : PLACES) {
            for (int backwards = 0; backwards < 2; backwards++) {
                boolean up = place[0] == backwards;
                int start = up ? place[2] : place[3];
                int whole = place[3] - place[2];
                int[] heads = {0, place[2] - 1, place[2], place[2] + 1, place[3] - 1, place[3], place[3] + 1, 600};
                for (int head : heads) {
                    TapeEnds t = twoFiles();
                    if (t.move(head) < 0) {
                        continue;
                    }
                    int travel = t.count(8);
                    int way = Math.abs(head - start) + whole;
                    String call = "read(" + place[0] + ", " + place[1] + ", " + backwards + ") from " + head;
                    Check.due(call + ": ofBlock", t.ofBlock(place[0], place[1], 6 + backwards), way);
                    t.read(place[0], place[1], backwards);
                    Check.due(call + ": the travel", t.count(8) - travel, way);
                }
            }
        }
    }

    private static void whatIsChecked() {
        Check.sentence("Head: its sum, its number, and 1 if it is read backwards, added, left over by 10");
        int[] sums = {0, 1, 8, 9, 10, 11, 19, 20, 98, 99, 100, 989, 999, 1000, 9989, 9990, 9998, 9999};
        for (int file : FILES) {
            TapeEnds t = new TapeEnds();
            for (int block = 0; block < sums.length; block++) {
                t.write(file, 1, sums[block]);
            }
            for (int block = 0; block < sums.length; block++) {
                for (int backwards = 0; backwards < 2; backwards++) {
                    String call = "read(" + file + ", " + block + ", " + backwards + ") of the sum " + sums[block];
                    int units = (sums[block] + block + backwards) % 10;
                    Check.due(call, t.read(file, block, backwards), units);
                }
            }
        }
    }

    private static void whatIsCheckedOfTheLast() {
        Check.sentence("8: Returns what is checked, 0 to 9");
        for (int file : FILES) {
            TapeEnds t = new TapeEnds();
            for (int block = 0; block < 20; block++) {
                t.write(file, 1, 9999);
            }
            Check.due("9999 + 0", t.read(file, 0, 0), 9);
            Check.due("9999 + 0 + 1", t.read(file, 0, 1), 0);
            Check.due("9999 + 1", t.read(file, 1, 0), 0);
            Check.due("9999 + 19", t.read(file, 19, 0), 8);
            Check.due("9999 + 19 + 1", t.read(file, 19, 1), 9);
            t.splice(t.ofBlock(file, 0, 3) + 2, 1);
        }
        TapeEnds t = new TapeEnds();
        t.write(0, 9, 7);
        t.splice(2, 1);
        Check.due("the sum that was lost", t.read(0, 0, 0), 0);
        Check.due("the sum that was lost, backwards", t.read(0, 0, 1), 1);
    }

    private static void readNoSuchBlock() {
        Check.sentence("8: NO_SUCH if there is no such file or block");
        for (int file : FILES) {
            TapeEnds t = new TapeEnds();
            Check.due("the block 0 of none", t.read(file, 0, 0), TapeEnds.NO_SUCH);
            t.write(1 - file, 1, 0);
            Check.due("the block 0 of the other file alone", t.read(file, 0, 0), TapeEnds.NO_SUCH);
            for (int blocks = 1; blocks <= 20; blocks++) {
                t.write(file, 1, 0);
                Check.due("the last one", t.read(file, blocks - 1, 0), (blocks - 1) % 10);
                Check.due("one more", t.read(file, blocks, 0), TapeEnds.NO_SUCH);
                Check.due("one less than 0", t.read(file, -1, 0), TapeEnds.NO_SUCH);
            }
            t.cut(file, 7);
            Check.due("the first that was cut off", t.read(file, 7, 0), TapeEnds.NO_SUCH);
            Check.due("the last that was not", t.read(file, 6, 0), 6);
        }
    }

    private static void readBackwardsIsZeroOrOne() {
        Check.sentence("8: BAD_VALUE if backwards is neither 0 nor 1");
        for (int file : FILES) {
            TapeEnds t = new TapeEnds();
            t.write(file, 1, 0);
            Check.due("-1", t.read(file, 0, -1), TapeEnds.BAD_VALUE);
            Check.due("0", t.read(file, 0, 0), 0);
            Check.due("1", t.read(file, 0, 1), 1);
            Check.due("2", t.read(file, 0, 2), TapeEnds.BAD_VALUE);
            Check.due("not counted", t.ofBlock(file, 0, 5), 2);
        }
    }

    private static void readIsCounted() {
        Check.sentence("11: how often it was read; 13: blocks that were read so far, each time");
        for (int[] read : new int[][] {{0, 0}, {0, 1}, {1, 0}, {1, 1}}) {
            TapeEnds t = new TapeEnds();
            for (int i = 0; i < 4; i++) {
                t.write(i % 2, 1, 0);
            }
            for (int times = 1; times <= 99; times++) {
                t.read(read[0], read[1], times % 2);
                Check.due("how often", t.ofBlock(read[0], read[1], 5), times);
                Check.due("so far", t.count(9), times);
            }
            t.read(1 - read[0], read[1], 0);
            Check.due("the other file", t.ofBlock(1 - read[0], read[1], 5), 1);
            Check.due("never", t.ofBlock(read[0], 1 - read[1], 5), 0);
            Check.due("how often, as before", t.ofBlock(read[0], read[1], 5), 99);
            Check.due("so far, both files", t.count(9), 100);
            t.cut(read[0], 0);
            Check.due("so far, also those that are gone", t.count(9), 100);
            t.write(read[0], 1, 0);
            t.write(read[0], 1, 0);
            Check.due("a new one", t.ofBlock(read[0], read[1], 5), 0);
        }
    }
}
