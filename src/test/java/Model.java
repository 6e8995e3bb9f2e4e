import java.util.ArrayList;
import java.util.IdentityHashMap;
import java.util.List;
import java.util.Map;
import java.util.regex.Pattern;

/**
 * The document told a second time, as plainly as can be: a tape is a list of feet, each of which knows
 * its block and whether it is a mark, and every place is found by looking at the feet.
 */
final class Model {
    private static final int NO_SUCH = -1, BAD_VALUE = -2, BAD_TEXT = -3, TOO_MANY = -4, NOT_POSSIBLE = -5, NONE = -6;
    private static final String NUMBER = "(0|[1-9][0-9]{0,3})";
    private static final String ORDER = "(w[01]:" + NUMBER + "#" + NUMBER + "|r[01]\\." + NUMBER + "-?|c[01]\\." + NUMBER
        + "|m" + NUMBER + "|x)";
    private static final Pattern TEXT = Pattern.compile(ORDER + "(;" + ORDER + ")*");
    private static final String[] ENDS = {"", "x", "0:1#1", ":1#1", "1#1", "#1", "0.1", ".1", "1"};

    private static final class Block {
        int sum;
        int timesRead;

        Block copy() {
            Block copy = new Block();
            copy.sum = sum;
            copy.timesRead = timesRead;
            return copy;
        }
    }

    private static final class Foot {
        Block block;
        int file;
        boolean mark;
    }

    private static final class State {
        List<Foot> feet = new ArrayList<>();
        List<List<Block>> files = List.of(new ArrayList<>(), new ArrayList<>());
        int gap = 10;
        int mark = 2;
        int head;
        int splices;
        int out;
        long travel;
        int reads;

        State copy() {
            State copy = new State();
            copy.gap = gap;
            copy.mark = mark;
            copy.head = head;
            copy.splices = splices;
            copy.out = out;
            copy.travel = travel;
            copy.reads = reads;
            Map<Block, Block> copies = new IdentityHashMap<>();
            for (int file = 0; file < 2; file++) {
                for (Block block : files.get(file)) {
                    copies.put(block, block.copy());
                    copy.files.get(file).add(copies.get(block));
                }
            }
            for (Foot foot : feet) {
                Foot newFoot = new Foot();
                newFoot.file = foot.file;
                newFoot.mark = foot.mark;
                newFoot.block = foot.block == null ? null : copies.get(foot.block);
                copy.feet.add(newFoot);
            }
            return copy;
        }
    }

    private State now = new State();
    private final List<State> history = new ArrayList<>();
    private final State[] slots = new State[2];
    private String pad = "";

    Model() {
        stretch(600);
    }

    private void stretch(int length) {
        now.feet.clear();
        for (int foot = 0; foot < length; foot++) {
            now.feet.add(new Foot());
        }
    }

    private void record() {
        history.add(now.copy());
        if (history.size() > 6) {
            history.remove(0);
        }
    }

    private boolean noFile(int file) {
        return file != 0 && file != 1;
    }

    private boolean noBlock(int file, int block) {
        return noFile(file) || block < 0 || block >= now.files.get(file).size();
    }

    private int gap() {
        int free = 0;
        for (Foot foot : now.feet) {
            free += foot.block == null ? 1 : 0;
        }
        return free;
    }

    private int lower(Block block) {
        for (int foot = 0; foot < now.feet.size(); foot++) {
            if (now.feet.get(foot).block == block) {
                return foot;
            }
        }
        throw new IllegalStateException("a block without feet");
    }

    private int upper(Block block) {
        for (int foot = now.feet.size(); foot > 0; foot--) {
            if (now.feet.get(foot - 1).block == block) {
                return foot;
            }
        }
        throw new IllegalStateException("a block without feet");
    }

    private int data(Block block) {
        int data = 0;
        for (Foot foot : now.feet) {
            data += foot.block == block && !foot.mark ? 1 : 0;
        }
        return data;
    }

    private int end(int file) {
        List<Block> blocks = now.files.get(file);
        if (blocks.isEmpty()) {
            return file == 0 ? 0 : now.feet.size();
        }
        Block last = blocks.get(blocks.size() - 1);
        return file == 0 ? upper(last) : lower(last);
    }

    private int go(int foot) {
        int way = foot > now.head ? foot - now.head : now.head - foot;
        now.travel += way;
        now.head = foot;
        return way;
    }

    int length(int feet) {
        if (feet < 100 || feet > 2000) {
            return BAD_VALUE;
        }
        if (count(5) != 0 || now.splices != 0) {
            return NOT_POSSIBLE;
        }
        record();
        int previous = now.feet.size();
        stretch(feet);
        if (now.head > feet) {
            now.head = feet;
        }
        return previous;
    }

    int tune(int gap, int mark) {
        if (gap < 1 || gap > 99 || mark < 1 || mark > 9) {
            return BAD_VALUE;
        }
        if (gap() < gap) {
            return NOT_POSSIBLE;
        }
        record();
        int previous = now.gap + 100 * now.mark;
        now.gap = gap;
        now.mark = mark;
        return previous;
    }

    private int writeError(int file, int data, int sum) {
        if (noFile(file)) {
            return NO_SUCH;
        }
        if (data < 1 || data > 99 || sum < 0 || sum > 9999) {
            return BAD_VALUE;
        }
        if (now.files.get(file).size() == 20) {
            return TOO_MANY;
        }
        return gap() - data - now.mark - now.mark < now.gap ? NOT_POSSIBLE : 0;
    }

    private int doWrite(int file, int data, int sum) {
        go(end(file));
        Block block = new Block();
        block.sum = sum;
        int whole = data + now.mark + now.mark;
        for (int i = 0; i < whole; i++) {
            Foot foot = now.feet.get(file == 0 ? now.head : now.head - 1);
            foot.block = block;
            foot.file = file;
            foot.mark = i < now.mark || i >= now.mark + data;
            go(file == 0 ? now.head + 1 : now.head - 1);
        }
        now.files.get(file).add(block);
        return now.files.get(file).size() - 1;
    }

    int write(int file, int data, int sum) {
        int error = writeError(file, data, sum);
        if (error < 0) {
            return error;
        }
        record();
        return doWrite(file, data, sum);
    }

    private int cutError(int file, int blocks) {
        if (noFile(file)) {
            return NO_SUCH;
        }
        if (blocks < 0) {
            return BAD_VALUE;
        }
        return now.files.get(file).size() < blocks ? NOT_POSSIBLE : 0;
    }

    private int doCut(int file, int blocks) {
        List<Block> all = now.files.get(file);
        int gone = 0;
        while (all.size() > blocks) {
            Block last = all.remove(all.size() - 1);
            for (Foot foot : now.feet) {
                if (foot.block == last) {
                    foot.block = null;
                }
            }
            gone++;
        }
        return gone;
    }

    int cut(int file, int blocks) {
        int error = cutError(file, blocks);
        if (error < 0) {
            return error;
        }
        record();
        return doCut(file, blocks);
    }

    int move(int foot) {
        if (foot < 0 || foot > now.feet.size()) {
            return BAD_VALUE;
        }
        record();
        return go(foot);
    }

    private int doRewind() {
        int down = now.head;
        int up = now.feet.size() - now.head;
        go(up < down ? now.feet.size() : 0);
        return now.head;
    }

    int rewind() {
        record();
        return doRewind();
    }

    private int doRead(int file, int block, int backwards) {
        Block read = now.files.get(file).get(block);
        boolean upwards = (file == 0) == (backwards == 0);
        go(upwards ? lower(read) : upper(read));
        go(upwards ? upper(read) : lower(read));
        read.timesRead++;
        now.reads++;
        return (read.sum + block + backwards) % 10;
    }

    int read(int file, int block, int backwards) {
        if (noBlock(file, block)) {
            return NO_SUCH;
        }
        if (backwards < 0 || backwards > 1) {
            return BAD_VALUE;
        }
        record();
        return doRead(file, block, backwards);
    }

    int splice(int foot, int bad) {
        if (foot < 0 || foot >= now.feet.size() || bad < 1 || bad > 50) {
            return BAD_VALUE;
        }
        if (foot + bad >= now.feet.size()) {
            return NOT_POSSIBLE;
        }
        Block block = now.feet.get(foot).block;
        for (int i = foot; i <= foot + bad; i++) {
            Foot spliced = now.feet.get(i);
            if (spliced.block != block || block != null && spliced.mark) {
                return NOT_POSSIBLE;
            }
        }
        if (block == null ? gap() - bad - 1 < now.gap : data(block) == bad + 1) {
            return NOT_POSSIBLE;
        }
        if (now.splices == 9) {
            return TOO_MANY;
        }
        record();
        int head = now.head;
        for (int i = 0; i <= bad; i++) {
            now.feet.remove(foot);
            if (foot + i < head) {
                now.head--;
            }
        }
        if (block != null) {
            block.sum = 0;
        }
        now.splices++;
        now.out += bad + 1;
        return now.feet.size();
    }

    int ofFile(int file, int what) {
        if (noFile(file)) {
            return NO_SUCH;
        }
        int feet = 0;
        int data = 0;
        int sums = 0;
        for (Foot foot : now.feet) {
            feet += foot.block != null && foot.file == file ? 1 : 0;
            data += foot.block != null && foot.file == file && !foot.mark ? 1 : 0;
        }
        for (Block block : now.files.get(file)) {
            sums += block.sum;
        }
        int[] answers = {now.files.get(file).size(), feet, data, end(file), sums};
        return what < 0 || what >= answers.length ? BAD_VALUE : answers[what];
    }

    private int wayToRead(int file, int block, int backwards) {
        State kept = now;
        now = now.copy();
        long before = now.travel;
        doRead(file, block, backwards);
        int way = (int) (now.travel - before);
        now = kept;
        return way;
    }

    int ofBlock(int file, int block, int what) {
        if (noBlock(file, block)) {
            return NO_SUCH;
        }
        Block asked = now.files.get(file).get(block);
        switch (what) {
            case 0: return data(asked);
            case 1: return asked.sum;
            case 2: return upper(asked) - lower(asked);
            case 3: return lower(asked);
            case 4: return upper(asked);
            case 5: return asked.timesRead;
            case 6: return wayToRead(file, block, 0);
            case 7: return wayToRead(file, block, 1);
            default: return BAD_VALUE;
        }
    }

    int at(int foot) {
        if (foot < 0 || foot >= now.feet.size()) {
            return BAD_VALUE;
        }
        Foot asked = now.feet.get(foot);
        return asked.block == null ? 0 : 10 * asked.file + (asked.mark ? 1 : 2);
    }

    int count(int what) {
        int blocks = now.files.get(0).size() + now.files.get(1).size();
        int[] answers = {now.feet.size(), now.gap, now.mark, now.head, gap(), blocks, now.splices, now.out,
            (int) (now.travel % 1000000000L), now.reads, pad.length(), history.size()};
        return what < 0 || what >= answers.length ? BAD_VALUE : answers[what];
    }

    int fits(int file) {
        if (noFile(file)) {
            return NO_SUCH;
        }
        int data = 0;
        while (data < 99 && writeError(file, data + 1, 0) == 0) {
            data++;
        }
        return data;
    }

    int rooms(int data) {
        if (data < 1 || data > 99) {
            return BAD_VALUE;
        }
        State kept = now;
        now = now.copy();
        int written = 0;
        for (int file = 0; file < 2; file++) {
            while (writeError(file, data, 0) == 0) {
                doWrite(file, data, 0);
                written++;
            }
        }
        now = kept;
        return written;
    }

    int nearest(int what) {
        if (what < 0 || what > 3) {
            return BAD_VALUE;
        }
        int[] best = null;
        for (int file = 0; file < 2; file++) {
            for (int block = 0; block < now.files.get(file).size(); block++) {
                for (int backwards = 0; backwards < 2; backwards++) {
                    int way = wayToRead(file, block, backwards);
                    if (best == null || way < best[3]) {
                        best = new int[] {file, block, backwards, way};
                    }
                }
            }
        }
        return best == null ? NONE : best[what];
    }

    int put(long characters) {
        StringBuilder text = new StringBuilder();
        boolean ended = false;
        for (int i = 0; i < 8; i++) {
            int code = (int) (characters >> 8 * i & 0xFF);
            if (code == 0) {
                ended = true;
            } else if (ended || code < 33 || code > 126) {
                return BAD_VALUE;
            } else {
                text.insert(0, (char) code);
            }
        }
        if (text.length() == 0) {
            return BAD_VALUE;
        }
        if (pad.length() + text.length() > 80) {
            return TOO_MANY;
        }
        pad += text;
        return pad.length();
    }

    int wipe() {
        int length = pad.length();
        pad = "";
        return length;
    }

    private boolean canGoOn(String text) {
        for (String end : ENDS) {
            if (TEXT.matcher(text + end).matches()) {
                return true;
            }
        }
        return false;
    }

    int fault() {
        if (TEXT.matcher(pad).matches()) {
            return NONE;
        }
        for (int i = 0; i < pad.length(); i++) {
            if (!canGoOn(pad.substring(0, i + 1))) {
                return i;
            }
        }
        return pad.length();
    }

    int carryOut() {
        if (fault() != NONE) {
            return BAD_TEXT;
        }
        record();
        int done = 0;
        for (String order : pad.split(";")) {
            if (carryOutOne(order) < 0) {
                break;
            }
            done++;
        }
        pad = "";
        return done;
    }

    private int carryOutOne(String order) {
        String[] parts = order.substring(1).replace("-", "").split("[:.#]");
        int[] n = new int[3];
        for (int i = 0; i < parts.length; i++) {
            n[i] = parts[i].isEmpty() ? 0 : Integer.parseInt(parts[i]);
        }
        int error;
        switch (order.charAt(0)) {
            case 'w':
                error = writeError(n[0], n[1], n[2]);
                return error < 0 ? error : doWrite(n[0], n[1], n[2]);
            case 'r':
                return noBlock(n[0], n[1]) ? NO_SUCH : doRead(n[0], n[1], order.endsWith("-") ? 1 : 0);
            case 'c':
                error = cutError(n[0], n[1]);
                return error < 0 ? error : doCut(n[0], n[1]);
            case 'm':
                return n[0] > now.feet.size() ? BAD_VALUE : go(n[0]);
            default:
                return doRewind();
        }
    }

    int undo() {
        if (history.isEmpty()) {
            return NOT_POSSIBLE;
        }
        now = history.remove(history.size() - 1);
        return history.size();
    }

    int save(int slot) {
        if (slot < 0 || slot > 1) {
            return BAD_VALUE;
        }
        slots[slot] = now.copy();
        return count(5);
    }

    int restore(int slot) {
        if (slot < 0 || slot > 1) {
            return BAD_VALUE;
        }
        if (slots[slot] == null) {
            return NOT_POSSIBLE;
        }
        record();
        now = slots[slot].copy();
        return count(5);
    }
}
