import java.util.Random;

/** All promises: runs of calls drawn by fixed seeds, each call asked of the class and of the model. */
public final class ModelTest {
    private static final int RUNS = 600;
    // What an object answers after 512 calls is free; a step makes at most 10 of them.
    private static final int MOST_CALLS = 512;
    private static final int MOST_OF_A_STEP = 10;

    private final Random random;
    private final TapeEnds real = new TapeEnds();
    private final Model model = new Model();
    private final int style;
    private int calls;

    private ModelTest(int seed) {
        random = new Random(seed);
        style = seed % 4;
    }

    public static void main(String[] args) {
        for (int seed = 0; seed < RUNS && !Check.anyWrong(); seed++) {
            new ModelTest(seed).run(seed);
        }
        Check.end();
    }

    private void run(int seed) {
        if (style == 1) {
            due("length", real.length(100), model.length(100));
        } else if (style == 2) {
            due("length", real.length(2000), model.length(2000));
            due("tune", real.tune(1, 1), model.tune(1, 1));
        }
        while (calls <= MOST_CALLS - MOST_OF_A_STEP && !Check.anyWrong()) {
            step();
        }
        if (Check.anyWrong()) {
            Check.tell("in the run of the seed " + seed);
        }
    }

    private void due(String call, long got, long want) {
        calls++;
        Check.due(call, got, want);
    }

    private int upTo(int most) {
        return random.nextInt(most + 1);
    }

    /** Mostly a number of the range, now and then one just outside it or far away. */
    private int near(int least, int most) {
        switch (upTo(39)) {
            case 0: return least - 1;
            case 1: return most + 1;
            case 2: return random.nextInt();
            case 3: return least;
            case 4: return most;
            default: return least + upTo(most - least);
        }
    }

    private int smallData() {
        return style == 2 ? near(1, 9) : near(1, style == 3 ? 40 : 99);
    }

    private int blockOf(int file) {
        int blocks = model.ofFile(file, 0);
        return blocks < 1 ? near(0, 20) : near(0, blocks - 1);
    }

    private int foot() {
        return near(0, model.count(0));
    }

    private void step() {
        int kind = upTo(99);
        if (kind < 16) {
            write();
        } else if (kind < 34) {
            change(kind);
        } else if (kind < 46) {
            splice();
        } else if (kind < 64) {
            ask(kind);
        } else if (kind < 76) {
            askIf(kind);
        } else if (kind < 90) {
            text(kind);
        } else {
            history(kind);
        }
    }

    private void write() {
        int file = near(0, 1);
        int data = smallData();
        int sum = near(0, 9999);
        due("write(" + file + ", " + data + ", " + sum + ")", real.write(file, data, sum), model.write(file, data, sum));
    }

    private void change(int kind) {
        int file = near(0, 1);
        if (kind < 18) {
            int feet = near(100, style == 1 ? 140 : 2000);
            due("length(" + feet + ")", real.length(feet), model.length(feet));
        } else if (kind < 21) {
            int gap = upTo(2) == 0 ? model.count(4) + upTo(2) - 1 : near(1, 99);
            int mark = near(1, 9);
            due("tune(" + gap + ", " + mark + ")", real.tune(gap, mark), model.tune(gap, mark));
        } else if (kind < 23) {
            int blocks = near(0, Math.max(0, model.ofFile(file, 0)));
            due("cut(" + file + ", " + blocks + ")", real.cut(file, blocks), model.cut(file, blocks));
        } else if (kind < 26) {
            int foot = foot();
            due("move(" + foot + ")", real.move(foot), model.move(foot));
        } else if (kind < 28) {
            due("rewind()", real.rewind(), model.rewind());
        } else {
            int block = blockOf(file);
            int backwards = near(0, 1);
            due("read(" + file + ", " + block + ", " + backwards + ")",
                real.read(file, block, backwards), model.read(file, block, backwards));
        }
    }

    private void splice() {
        int foot = foot();
        int bad = upTo(1) == 0 ? near(1, 50) : near(1, 4);
        int file = upTo(1);
        int blocks = model.ofFile(file, 0);
        int aim = upTo(3);
        if (aim == 0 && blocks > 0) {
            int block = upTo(blocks - 1);
            int lower = model.ofBlock(file, block, 3);
            int whole = model.ofBlock(file, block, 2);
            int data = model.ofBlock(file, block, 0);
            foot = lower + (whole - data) / 2 + upTo(2) - 1;
            bad = Math.max(1, data - upTo(3));
        } else if (aim == 1) {
            foot = model.ofFile(0, 3) + upTo(1);
        } else if (aim == 2) {
            foot = model.ofFile(1, 3) - bad - upTo(2);
        }
        due("splice(" + foot + ", " + bad + ")", real.splice(foot, bad), model.splice(foot, bad));
    }

    private void ask(int kind) {
        int file = near(0, 1);
        if (kind < 49) {
            int what = near(0, 4);
            due("ofFile(" + file + ", " + what + ")", real.ofFile(file, what), model.ofFile(file, what));
        } else if (kind < 55) {
            int block = blockOf(file);
            int what = near(0, 7);
            due("ofBlock(" + file + ", " + block + ", " + what + ")",
                real.ofBlock(file, block, what), model.ofBlock(file, block, what));
        } else if (kind < 59) {
            int foot = foot();
            due("at(" + foot + ")", real.at(foot), model.at(foot));
        } else {
            int what = near(0, 11);
            due("count(" + what + ")", real.count(what), model.count(what));
        }
    }

    private void askIf(int kind) {
        int file = near(0, 1);
        if (kind < 68) {
            due("fits(" + file + ")", real.fits(file), model.fits(file));
        } else if (kind < 72) {
            int data = smallData();
            due("rooms(" + data + ")", real.rooms(data), model.rooms(data));
        } else {
            int what = near(0, 3);
            due("nearest(" + what + ")", real.nearest(what), model.nearest(what));
        }
    }

    private void text(int kind) {
        if (kind < 78) {
            long characters = random.nextLong() >>> 8 * upTo(7);
            due("put(" + characters + ")", real.put(characters), model.put(characters));
        } else if (kind < 84) {
            String order = (model.count(10) == 0 ? "" : ";") + order();
            for (int from = 0; from < order.length(); from += 8) {
                long characters = Check.number(order.substring(from, Math.min(order.length(), from + 8)));
                due("put(" + characters + ")", real.put(characters), model.put(characters));
            }
        } else if (kind < 85) {
            due("wipe()", real.wipe(), model.wipe());
        } else if (kind < 87) {
            due("fault()", real.fault(), model.fault());
        } else {
            due("carryOut()", real.carryOut(), model.carryOut());
        }
    }

    /** An order, now and then with a character that is wrong. */
    private String order() {
        int file = upTo(1);
        String[] orders = {"w" + file + ":" + (1 + upTo(60)) + "#" + upTo(9999), "r" + file + "." + upTo(4),
            "r" + file + "." + upTo(4) + "-", "c" + file + "." + upTo(5), "m" + upTo(700), "x"};
        String order = orders[upTo(5)];
        if (upTo(5) != 0) {
            return order;
        }
        int place = upTo(order.length() - 1);
        String wrong = "wrcmx01259:#.-;!".charAt(upTo(15)) + "";
        return order.substring(0, place) + wrong + order.substring(place + upTo(1));
    }

    private void history(int kind) {
        int slot = near(0, 1);
        if (kind < 94) {
            due("undo()", real.undo(), model.undo());
        } else if (kind < 97) {
            due("save(" + slot + ")", real.save(slot), model.save(slot));
        } else {
            due("restore(" + slot + ")", real.restore(slot), model.restore(slot));
        }
    }
}
