/** Two files on one tape that grow from both ends towards each other; shared/DOC.md says what each call does. */
public final class TapeEnds {
    public static final int NO_SUCH = -1, BAD_VALUE = -2, BAD_TEXT = -3, TOO_MANY = -4, NOT_POSSIBLE = -5, NONE = -6;

    private static final int FILES = 2;
    private static final int MOST_BLOCKS = 20;
    private static final int MOST_DATA = 99;
    private static final int MOST_SUM = 9999;
    private static final int MOST_PAST = 6;
    private static final int SLOTS = 2;

    private final Tape[] past;
    private final Tape[] slots;
    private final boolean[] saved;
    private final Pad pad;
    private final OrderReader reader;
    private final Tape tape;
    private Tape before;
    private int pastCount;

    public TapeEnds() {
        tape = new Tape();
        before = new Tape();
        past = new Tape[MOST_PAST];
        for (int i = 0; i < MOST_PAST; i++) {
            past[i] = new Tape();
        }
        slots = new Tape[SLOTS];
        for (int i = 0; i < SLOTS; i++) {
            slots[i] = new Tape();
        }
        saved = new boolean[SLOTS];
        pad = new Pad();
        reader = new OrderReader(pad);
        pastCount = 0;
    }

    // ---- changes

    public int length(int feet) {
        before.copyFrom(tape);
        return recorded(tape.setFeet(feet));
    }

    public int tune(int gap, int mark) {
        before.copyFrom(tape);
        return recorded(tape.setGapAndMark(gap, mark));
    }

    public int write(int file, int data, int sum) {
        before.copyFrom(tape);
        return recorded(tape.addBlock(file, data, sum));
    }

    public int cut(int file, int blocks) {
        before.copyFrom(tape);
        return recorded(tape.keepBlocks(file, blocks));
    }

    public int move(int foot) {
        before.copyFrom(tape);
        return recorded(tape.moveHead(foot));
    }

    public int rewind() {
        before.copyFrom(tape);
        return recorded(tape.goToNearerEnd());
    }

    public int read(int file, int block, int backwards) {
        before.copyFrom(tape);
        return recorded(tape.passBlock(file, block, backwards));
    }

    public int splice(int foot, int bad) {
        before.copyFrom(tape);
        return recorded(tape.takeOut(foot, bad));
    }

    // ---- what there is

    public int ofFile(int file, int what) {
        return tape.aboutFile(file, what);
    }

    public int ofBlock(int file, int block, int what) {
        return tape.aboutBlock(file, block, what);
    }

    public int at(int foot) {
        return tape.kindOfFoot(foot);
    }

    public int count(int what) {
        if (what == 10) {
            return pad.size();
        }
        if (what == 11) {
            return pastCount;
        }
        return tape.aboutTape(what);
    }

    // ---- what if; nothing changes

    public int fits(int file) {
        return tape.greatestData(file);
    }

    public int rooms(int data) {
        return tape.blocksThatFit(data);
    }

    public int nearest(int what) {
        return tape.aboutNearest(what);
    }

    // ---- texts

    public int put(long characters) {
        return pad.append(characters);
    }

    public int wipe() {
        return pad.clear();
    }

    public int fault() {
        return reader.faultPosition();
    }

    public int carryOut() {
        if (reader.faultPosition() != NONE) {
            return BAD_TEXT;
        }
        before.copyFrom(tape);
        int done = carryOutOrders();
        pad.clear();
        return recorded(done);
    }

    private int carryOutOrders() {
        reader.startAgain();
        for (int done = 0; done < OrderReader.MOST_ORDERS; done++) {
            if (!reader.hasMore()) {
                return done;
            }
            reader.readNext();
            if (reader.carryOutOn(tape) < 0) {
                return done;
            }
        }
        return OrderReader.MOST_ORDERS;
    }

    // ---- undo, saving

    public int undo() {
        if (pastCount < 1 || pastCount > MOST_PAST) {
            return NOT_POSSIBLE;
        }
        pastCount--;
        tape.copyFrom(past[pastCount]);
        return pastCount;
    }

    public int save(int slot) {
        if (slot < 0 || slot >= SLOTS) {
            return BAD_VALUE;
        }
        slots[slot].copyFrom(tape);
        saved[slot] = true;
        return tape.allBlocks();
    }

    public int restore(int slot) {
        if (slot < 0 || slot >= SLOTS) {
            return BAD_VALUE;
        }
        if (!saved[slot]) {
            return NOT_POSSIBLE;
        }
        before.copyFrom(tape);
        tape.copyFrom(slots[slot]);
        return recorded(tape.allBlocks());
    }

    /** Puts the state before the change into the history, unless the change answered an error. */
    private int recorded(int answer) {
        if (answer < 0) {
            return answer;
        }
        if (pastCount >= MOST_PAST) {
            dropOldest();
        }
        // The rows change places so that no new ones have to be made.
        Tape unused = past[pastCount];
        past[pastCount] = before;
        before = unused;
        pastCount++;
        return answer;
    }

    private void dropOldest() {
        Tape oldest = past[0];
        for (int i = 1; i < MOST_PAST; i++) {
            past[i - 1] = past[i];
        }
        past[MOST_PAST - 1] = oldest;
        pastCount = MOST_PAST - 1;
    }

    /** All that undo and the slots keep: the tape with its files, the head, and the totals. */
    private static final class Tape {
        private static final int TRAVEL_LIMIT = 1000000000;
        private static final int LEAST_FEET = 100;
        private static final int MOST_FEET = 2000;
        private static final int MOST_GAP = 99;
        private static final int MOST_MARK = 9;
        private static final int MOST_BAD = 50;
        private static final int MOST_SPLICES = 9;

        private int feet;
        private int leastGap;
        private int mark;
        private int head;
        private int splices;
        private int feetTakenOut;
        private int travel;
        private int blocksRead;
        private final int[] blocks;
        // A block's row in these is that of its file and its number: see rowOf().
        private final int[] data;
        private final int[] sums;
        private final int[] marks;
        private final int[] timesRead;

        Tape() {
            feet = 600;
            leastGap = 10;
            mark = 2;
            head = 0;
            splices = 0;
            feetTakenOut = 0;
            travel = 0;
            blocksRead = 0;
            blocks = new int[FILES];
            data = new int[FILES * MOST_BLOCKS];
            sums = new int[FILES * MOST_BLOCKS];
            marks = new int[FILES * MOST_BLOCKS];
            timesRead = new int[FILES * MOST_BLOCKS];
        }

        void copyFrom(Tape other) {
            feet = other.feet;
            leastGap = other.leastGap;
            mark = other.mark;
            head = other.head;
            splices = other.splices;
            feetTakenOut = other.feetTakenOut;
            travel = other.travel;
            blocksRead = other.blocksRead;
            System.arraycopy(other.blocks, 0, blocks, 0, FILES);
            System.arraycopy(other.data, 0, data, 0, FILES * MOST_BLOCKS);
            System.arraycopy(other.sums, 0, sums, 0, FILES * MOST_BLOCKS);
            System.arraycopy(other.marks, 0, marks, 0, FILES * MOST_BLOCKS);
            System.arraycopy(other.timesRead, 0, timesRead, 0, FILES * MOST_BLOCKS);
        }

        // ---- changes; each checks first and then changes

        int setFeet(int newFeet) {
            if (newFeet < LEAST_FEET || newFeet > MOST_FEET) {
                return BAD_VALUE;
            }
            if (allBlocks() > 0 || splices > 0) {
                return NOT_POSSIBLE;
            }
            int previous = feet;
            feet = newFeet;
            head = Math.min(head, feet);
            return previous;
        }

        int setGapAndMark(int newGap, int newMark) {
            if (newGap < 1 || newGap > MOST_GAP || newMark < 1 || newMark > MOST_MARK) {
                return BAD_VALUE;
            }
            if (gap() < newGap) {
                return NOT_POSSIBLE;
            }
            int previous = leastGap + 100 * mark;
            leastGap = newGap;
            mark = newMark;
            return previous;
        }

        int addBlock(int file, int newData, int newSum) {
            if (!isFile(file)) {
                return NO_SUCH;
            }
            if (newData < 1 || newData > MOST_DATA || newSum < 0 || newSum > MOST_SUM) {
                return BAD_VALUE;
            }
            if (blocks[file] >= MOST_BLOCKS) {
                return TOO_MANY;
            }
            if (gap() - (newData + 2 * mark) < leastGap) {
                return NOT_POSSIBLE;
            }
            travelTo(endInGap(file));
            int block = blocks[file];
            int row = rowOf(file, block);
            data[row] = newData;
            sums[row] = newSum;
            marks[row] = mark;
            timesRead[row] = 0;
            blocks[file]++;
            travelTo(endInGap(file));
            return block;
        }

        int keepBlocks(int file, int kept) {
            if (!isFile(file)) {
                return NO_SUCH;
            }
            if (kept < 0) {
                return BAD_VALUE;
            }
            if (kept > blocks[file]) {
                return NOT_POSSIBLE;
            }
            int gone = blocks[file] - kept;
            blocks[file] = kept;
            return gone;
        }

        int moveHead(int foot) {
            if (foot < 0 || foot > feet) {
                return BAD_VALUE;
            }
            return travelTo(foot);
        }

        int goToNearerEnd() {
            travelTo(head <= feet - head ? 0 : feet);
            return head;
        }

        int passBlock(int file, int block, int backwards) {
            if (!isBlock(file, block)) {
                return NO_SUCH;
            }
            if (backwards != 0 && backwards != 1) {
                return BAD_VALUE;
            }
            int row = rowOf(file, block);
            travelTo(startOfReading(file, block, backwards));
            travelTo(startOfReading(file, block, 1 - backwards));
            timesRead[row]++;
            blocksRead++;
            return (sums[row] + block + backwards) % 10;
        }

        int takeOut(int foot, int bad) {
            if (foot < 0 || foot >= feet || bad < 1 || bad > MOST_BAD) {
                return BAD_VALUE;
            }
            int out = bad + 1;
            int row = rowWithData(foot, foot + out);
            boolean blockKeepsData = row >= 0 && data[row] - out >= 1;
            boolean gapStaysOpen = isInGap(foot, foot + out) && gap() - out >= leastGap;
            if (!blockKeepsData && !gapStaysOpen) {
                return NOT_POSSIBLE;
            }
            if (splices >= MOST_SPLICES) {
                return TOO_MANY;
            }
            if (row >= 0) {
                data[row] -= out;
                sums[row] = 0;
            }
            feet -= out;
            head -= Math.max(0, Math.min(out, head - foot));
            splices++;
            feetTakenOut += out;
            return feet;
        }

        private int travelTo(int foot) {
            int way = Math.abs(foot - head);
            travel = (travel + way) % TRAVEL_LIMIT;
            head = foot;
            return way;
        }

        // ---- what there is

        int aboutTape(int what) {
            switch (what) {
                case 0: return feet;
                case 1: return leastGap;
                case 2: return mark;
                case 3: return head;
                case 4: return gap();
                case 5: return allBlocks();
                case 6: return splices;
                case 7: return feetTakenOut;
                case 8: return travel;
                case 9: return blocksRead;
                default: return BAD_VALUE;
            }
        }

        int aboutFile(int file, int what) {
            if (!isFile(file)) {
                return NO_SUCH;
            }
            switch (what) {
                case 0: return blocks[file];
                case 1: return feetOfFirst(file, blocks[file]);
                case 2: return totalOf(data, file);
                case 3: return endInGap(file);
                case 4: return totalOf(sums, file);
                default: return BAD_VALUE;
            }
        }

        int aboutBlock(int file, int block, int what) {
            if (!isBlock(file, block)) {
                return NO_SUCH;
            }
            int row = rowOf(file, block);
            switch (what) {
                case 0: return data[row];
                case 1: return sums[row];
                case 2: return wholeLength(row);
                case 3: return lowerEnd(file, block);
                case 4: return lowerEnd(file, block) + wholeLength(row);
                case 5: return timesRead[row];
                case 6: return travelToRead(file, block, 0);
                case 7: return travelToRead(file, block, 1);
                default: return BAD_VALUE;
            }
        }

        int kindOfFoot(int foot) {
            if (foot < 0 || foot >= feet) {
                return BAD_VALUE;
            }
            if (isInGap(foot, foot + 1)) {
                return 0;
            }
            int fileMark = foot < endInGap(0) ? 1 : 11;
            return rowWithData(foot, foot + 1) < 0 ? fileMark : fileMark + 1;
        }

        int allBlocks() {
            return blocks[0] + blocks[1];
        }

        // ---- what if

        int greatestData(int file) {
            if (!isFile(file)) {
                return NO_SUCH;
            }
            if (blocks[file] >= MOST_BLOCKS) {
                return 0;
            }
            return Math.max(0, Math.min(MOST_DATA, gap() - leastGap - 2 * mark));
        }

        int blocksThatFit(int newData) {
            if (newData < 1 || newData > MOST_DATA) {
                return BAD_VALUE;
            }
            int whole = newData + 2 * mark;
            // Never so, but a divisor is looked at before it divides.
            if (whole < 1) {
                return 0;
            }
            return Math.min(FILES * MOST_BLOCKS - allBlocks(), (gap() - leastGap) / whole);
        }

        int aboutNearest(int what) {
            if (what < 0 || what > 3) {
                return BAD_VALUE;
            }
            int least = -1;
            int answer = NONE;
            for (int file = 0; file < FILES; file++) {
                for (int block = 0; block < blocks[file]; block++) {
                    for (int backwards = 0; backwards <= 1; backwards++) {
                        int way = travelToRead(file, block, backwards);
                        if (least < 0 || way < least) {
                            least = way;
                            answer = what == 0 ? file : what == 1 ? block : what == 2 ? backwards : way;
                        }
                    }
                }
            }
            return answer;
        }

        // ---- places

        private boolean isFile(int file) {
            return file >= 0 && file < FILES;
        }

        private boolean isBlock(int file, int block) {
            return isFile(file) && block >= 0 && block < blocks[file];
        }

        private int rowOf(int file, int block) {
            return file * MOST_BLOCKS + block;
        }

        private int wholeLength(int row) {
            return data[row] + 2 * marks[row];
        }

        private int totalOf(int[] rows, int file) {
            int total = 0;
            for (int block = 0; block < blocks[file]; block++) {
                total += rows[rowOf(file, block)];
            }
            return total;
        }

        private int feetOfFirst(int file, int howMany) {
            int total = 0;
            for (int block = 0; block < howMany; block++) {
                total += wholeLength(rowOf(file, block));
            }
            return total;
        }

        private int gap() {
            return feet - feetOfFirst(0, blocks[0]) - feetOfFirst(1, blocks[1]);
        }

        private int endInGap(int file) {
            int filled = feetOfFirst(file, blocks[file]);
            return file == 0 ? filled : feet - filled;
        }

        private boolean isInGap(int from, int to) {
            return from >= endInGap(0) && to <= endInGap(1);
        }

        private int lowerEnd(int file, int block) {
            return file == 0 ? feetOfFirst(file, block) : feet - feetOfFirst(file, block + 1);
        }

        /** The end of a block at which the head sets out to read it; reading the other way ends there. */
        private int startOfReading(int file, int block, int backwards) {
            int lower = lowerEnd(file, block);
            return file == backwards ? lower : lower + wholeLength(rowOf(file, block));
        }

        private int travelToRead(int file, int block, int backwards) {
            return Math.abs(startOfReading(file, block, backwards) - head) + wholeLength(rowOf(file, block));
        }

        /** The row of the block within whose data all feet between two boundaries are, or -1. */
        private int rowWithData(int from, int to) {
            for (int file = 0; file < FILES; file++) {
                for (int block = 0; block < blocks[file]; block++) {
                    int row = rowOf(file, block);
                    int firstData = lowerEnd(file, block) + marks[row];
                    if (from >= firstData && to <= firstData + data[row]) {
                        return row;
                    }
                }
            }
            return -1;
        }
    }

    /** The text that put() makes longer, at most 80 characters. */
    private static final class Pad {
        private static final int MOST_CHARACTERS = 80;
        private static final int MOST_AT_ONCE = 8;

        private final char[] text;
        private int size;

        Pad() {
            text = new char[MOST_CHARACTERS];
            size = 0;
        }

        int size() {
            return size;
        }

        /** The character at an index, or the character 0 (never in a pad) where there is none. */
        char characterAt(int index) {
            return index >= 0 && index < size ? text[index] : (char) 0;
        }

        int append(long characters) {
            int added = charactersIn(characters);
            if (added < 1) {
                return BAD_VALUE;
            }
            if (size + added > MOST_CHARACTERS) {
                return TOO_MANY;
            }
            for (int left = added - 1; left >= 0; left--) {
                text[size] = (char) ((characters >>> (8 * left)) & 255);
                size++;
            }
            return size;
        }

        int clear() {
            int previous = size;
            size = 0;
            return previous;
        }

        /** How many characters a number tells, or 0 if it does not tell characters as it should. */
        private int charactersIn(long characters) {
            long rest = characters;
            int found = 0;
            while (found < MOST_AT_ONCE && rest != 0) {
                long code = rest & 255;
                if (code < 33 || code > 126) {
                    return 0;
                }
                rest >>>= 8;
                found++;
            }
            return found;
        }
    }

    /** Reads the pad's orders from left to right, one at a time, and stops at the first fault. */
    private static final class OrderReader {
        static final int MOST_ORDERS = Pad.MOST_CHARACTERS;
        private static final int MOST_DIGITS = 4;

        private final Pad pad;
        private int position;
        private boolean failed;
        private char kind;
        private int file;
        private int number;
        private int sum;
        private int backwards;

        OrderReader(Pad read) {
            pad = read;
            position = 0;
            failed = false;
        }

        void startAgain() {
            position = 0;
            failed = false;
        }

        boolean hasMore() {
            return !failed && position < pad.size();
        }

        int faultPosition() {
            startAgain();
            // Without the first order being asked for, an empty pad would have no fault.
            readNext();
            for (int orders = 1; orders < MOST_ORDERS && hasMore(); orders++) {
                readNext();
            }
            return failed ? position : NONE;
        }

        void readNext() {
            if (position > 0) {
                pass(';');
            }
            if (!failed) {
                readOrder();
            }
        }

        /** Answers what the method that the order calls answers. */
        int carryOutOn(Tape tape) {
            switch (kind) {
                case 'w': return tape.addBlock(file, number, sum);
                case 'r': return tape.passBlock(file, number, backwards);
                case 'c': return tape.keepBlocks(file, number);
                case 'm': return tape.moveHead(number);
                case 'x': return tape.goToNearerEnd();
                default: return BAD_TEXT;
            }
        }

        private void readOrder() {
            kind = pad.characterAt(position);
            switch (kind) {
                case 'w':
                    position++;
                    readFile(':');
                    number = readNumber();
                    pass('#');
                    sum = readNumber();
                    break;
                case 'r':
                    position++;
                    readFile('.');
                    number = readNumber();
                    backwards = passIfThere('-') ? 1 : 0;
                    break;
                case 'c':
                    position++;
                    readFile('.');
                    number = readNumber();
                    break;
                case 'm':
                    position++;
                    number = readNumber();
                    break;
                case 'x':
                    position++;
                    break;
                default:
                    failed = true;
                    break;
            }
        }

        private void readFile(char behind) {
            if (passIfThere('1')) {
                file = 1;
            } else {
                pass('0');
                file = 0;
            }
            pass(behind);
        }

        /** Stops ahead of a digit that is too many: whatever has to follow the number finds the fault there. */
        private int readNumber() {
            if (!isDigitNext()) {
                failed = true;
            }
            if (passIfThere('0')) {
                return 0;
            }
            int value = 0;
            for (int digits = 0; digits < MOST_DIGITS && isDigitNext(); digits++) {
                value = 10 * value + (pad.characterAt(position) - '0');
                position++;
            }
            return value;
        }

        private boolean isDigitNext() {
            char next = pad.characterAt(position);
            return !failed && next >= '0' && next <= '9';
        }

        private boolean passIfThere(char wanted) {
            if (failed || pad.characterAt(position) != wanted) {
                return false;
            }
            position++;
            return true;
        }

        private void pass(char wanted) {
            if (!passIfThere(wanted)) {
                failed = true;
            }
        }
    }
}
