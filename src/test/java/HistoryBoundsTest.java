/** Promises 21 to 23, a test for each sentence that names a boundary. */
public final class HistoryBoundsTest {
    public static void main(String[] args) {
        sixStates();
        oldestIsDropped();
        errorLeavesOldest();
        statesAreOfTheirOwn();
        undoOfNone();
        undoIsNoChange();
        sameIsRecordedToo();
        errorsRecordNothing();
        everyChangeRecords();
        whatIsNoChange();
        undoBringsAllBack();
        undoLeavesPadAndSlots();
        saveCountsBlocks();
        slotRange();
        saveOverwrites();
        saveIsApart();
        restoreNeedsASave();
        slotKeeps();
        restoreBringsAllBack();
        restoreOfFullFiles();
        undoOfFullFiles();
        restoreLeavesPadHistoryAndSlots();
        restoreIsAChange();
        Check.end();
    }

    private static void sixStates() {
        Check.sentence("21: A history of at most 6 states is kept; Returns how many changes can be undone then");
        for (int changes = 1; changes <= 14; changes++) {
            TapeEnds t = new TapeEnds();
            for (int i = 1; i <= changes; i++) {
                t.move(i);
                Check.due("count(11) after " + i, t.count(11), Math.min(i, 6));
            }
            int kept = Math.min(changes, 6);
            for (int left = kept - 1; left >= 0; left--) {
                Check.due("undo() of " + changes, t.undo(), left);
                Check.due("count(11)", t.count(11), left);
                Check.due("the head", t.count(3), changes - kept + left);
            }
            Check.due("one more undo() of " + changes, t.undo(), TapeEnds.NOT_POSSIBLE);
            Check.due("the head", t.count(3), changes - kept);
        }
    }

    private static void oldestIsDropped() {
        Check.sentence("21: when one more is recorded, the oldest one is dropped (not the latest)");
        TapeEnds t = new TapeEnds();
        for (int block = 0; block < 7; block++) {
            t.write(0, 10 + block, block);
        }
        for (int blocks = 6; blocks >= 1; blocks--) {
            t.undo();
            Check.due("blocks", t.ofFile(0, 0), blocks);
            Check.due("data of the last one", t.ofBlock(0, blocks - 1, 0), 9 + blocks);
        }
        Check.due("the first change stays", t.undo(), TapeEnds.NOT_POSSIBLE);
        Check.due("the first block stays", t.ofFile(0, 0), 1);
    }

    private static void errorLeavesOldest() {
        Check.sentence("A call that returns an error changes nothing (not the oldest of 6 states)");
        for (int changes = 6; changes <= 13; changes++) {
            TapeEnds t = new TapeEnds();
            for (int i = 1; i <= changes; i++) {
                t.move(i);
                t.move(-1);
            }
            t.restore(0);
            t.carryOut();
            t.write(0, 0, 0);
            for (int left = 5; left >= 0; left--) {
                Check.due("undo() of " + changes, t.undo(), left);
                Check.due("the head", t.count(3), changes - 6 + left);
            }
        }
    }

    private static void statesAreOfTheirOwn() {
        Check.sentence("21: everything is as it was before it (over many changes and undos)");
        TapeEnds t = new TapeEnds();
        String[] states = new String[60];
        int at = 0;
        int kept = 0;
        for (int i = 0; i < 40; i++) {
            if (i % 5 == 4 && kept > 0) {
                t.undo();
                at--;
                kept--;
                Check.same("undo " + i, brief(t), states[at]);
            } else {
                states[at] = brief(t);
                Check.due("write " + i, t.write(i % 2, 1 + i % 7, i), t.ofFile(i % 2, 0) - 1);
                at++;
                kept = Math.min(6, kept + 1);
            }
        }
        while (kept > 0) {
            Check.due("undo", t.undo(), kept - 1);
            at--;
            kept--;
            Check.same("undo at the end", brief(t), states[at]);
        }
    }

    // Few calls, so that a run of many states stays within 512 of them.
    private static String brief(TapeEnds t) {
        return t.count(3) + " " + t.count(8) + " " + t.ofFile(0, 0) + " " + t.ofFile(1, 0) + " " + t.ofFile(0, 4) + " "
            + t.ofFile(1, 4) + " " + t.count(4);
    }

    private static void undoOfNone() {
        Check.sentence("21: NOT_POSSIBLE if there is none");
        TapeEnds t = new TapeEnds();
        Check.due("undo of a new object", t.undo(), TapeEnds.NOT_POSSIBLE);
        t.move(5);
        Check.due("undo of 1", t.undo(), 0);
        Check.due("undo of none again", t.undo(), TapeEnds.NOT_POSSIBLE);
        t.move(6);
        Check.due("undo of 1 again", t.undo(), 0);
        Check.due("the head", t.count(3), 0);
    }

    private static void undoIsNoChange() {
        Check.sentence("21: everything except the pad, the slots and the history (undo itself is not recorded)");
        TapeEnds t = new TapeEnds();
        t.move(1);
        t.move(2);
        t.move(3);
        Check.due("undo", t.undo(), 2);
        Check.due("undo of undo goes on", t.undo(), 1);
        Check.due("the head", t.count(3), 1);
        t.move(9);
        Check.due("a change after undo", t.count(11), 2);
        t.undo();
        Check.due("the head before it", t.count(3), 1);
        t.undo();
        Check.due("the head before all", t.count(3), 0);
    }

    private static void sameIsRecordedToo() {
        Check.sentence("21: records the state before it (also if nothing is different then)");
        TapeEnds t = new TapeEnds();
        t.save(0);
        Check.due("length(600)", t.length(600), 600);
        Check.due("tune(10, 2)", t.tune(10, 2), 210);
        Check.due("cut(0, 0)", t.cut(0, 0), 0);
        Check.due("move(0)", t.move(0), 0);
        Check.due("rewind()", t.rewind(), 0);
        Check.due("changes", t.count(11), 5);
        Check.due("restore(0)", t.restore(0), 0);
        Check.due("changes", t.count(11), 6);
        Check.due("undo", t.undo(), 5);
        Check.put(t, "m9999");
        Check.due("carryOut()", t.carryOut(), 0);
        Check.due("changes", t.count(11), 6);
    }

    private static void errorsRecordNothing() {
        Check.sentence("21: each method that is a change, and returns no error");
        TapeEnds t = new TapeEnds();
        t.write(0, 5, 5);
        Twins.Call[] errors = {x -> x.length(600), x -> x.length(99), x -> x.tune(0, 1), x -> x.write(2, 1, 1),
            x -> x.cut(0, 2), x -> x.move(601), x -> x.read(1, 0, 0), x -> x.splice(0, 1), x -> x.carryOut(),
            x -> x.restore(0), x -> x.restore(2)};
        for (Twins.Call error : errors) {
            if (error.on(t) >= 0) {
                Check.tell("a call that has to be refused was not");
            }
            Check.due("changes", t.count(11), 1);
        }
        t.undo();
        Check.due("the one before all errors", t.count(5), 0);
    }

    private static void everyChangeRecords() {
        Check.sentence("21: each method that is a change records the state before it");
        Twins.Call[] changes = {x -> x.tune(3, 4), x -> x.write(1, 7, 7), x -> x.cut(0, 0), x -> x.move(5),
            x -> x.rewind(), x -> x.read(0, 0, 1), x -> x.splice(3, 3), x -> x.splice(100, 3), x -> x.restore(0),
            x -> carryOut(x)};
        for (int i = 0; i < changes.length; i++) {
            TapeEnds t = new TapeEnds();
            t.write(1, 40, 77);
            t.save(0);
            t.write(0, 20, 55);
            String before = Check.state(t);
            if (changes[i].on(t) < 0) {
                Check.tell("the change " + i + " was refused");
            }
            Check.due("count(11) after the change " + i, t.count(11), 3);
            Check.due("undo of the change " + i, t.undo(), 2);
            Check.same("undo of the change " + i, Check.state(t), before);
        }
        TapeEnds t = new TapeEnds();
        t.length(700);
        t.tune(5, 6);
        t.move(500);
        t.length(100);
        Check.due("undo of length", t.undo(), 3);
        Check.counts(t, "undo of length", 700, 5, 6, 500, 700, 0, 0, 0, 500, 0, 0, 3);
    }

    private static int carryOut(TapeEnds t) {
        Check.put(t, "m5;c1.0;w0:9#9;r0.0");
        return t.carryOut();
    }

    private static void whatIsNoChange() {
        Check.sentence("21: each method that is a change (what there is, what if, texts and save are none)");
        TapeEnds t = new TapeEnds();
        t.write(0, 5, 5);
        Twins.Call[] calls = {x -> x.ofFile(0, 0), x -> x.ofBlock(0, 0, 6), x -> x.at(0), x -> x.count(0),
            x -> x.fits(0), x -> x.rooms(5), x -> x.nearest(0), x -> x.put('x'), x -> x.fault(), x -> x.wipe(),
            x -> x.save(1)};
        for (int i = 0; i < calls.length; i++) {
            calls[i].on(t);
            Check.due("count(11) after the call " + i, t.count(11), 1);
        }
    }

    /** Sets everything that a state has to something else than in a new object. */
    private static void changeAll(TapeEnds t) {
        t.length(500);
        t.tune(4, 5);
        for (int block = 0; block < 3; block++) {
            t.write(0, 20 + block, 55 + block);
            t.write(1, 30 + block, 77 + block);
        }
        t.splice(6, 3);
        t.read(1, 2, 0);
        t.read(0, 1, 1);
    }

    private static void undoBringsAllBack() {
        Check.sentence("21: Undoes the latest change: everything ... is as it was before it");
        TapeEnds t = new TapeEnds();
        t.save(1);
        changeAll(t);
        // Of 6 changes restore() would drop one, and 5 could be undone in the end.
        t.undo();
        String before = Check.state(t);
        t.restore(1);
        Check.counts(t, "restore(1)", 600, 10, 2, 0, 600, 0, 0, 0, 0, 0, 0, 6);
        t.undo();
        Check.same("undo of restore(1)", Check.state(t), before);
    }

    private static void undoLeavesPadAndSlots() {
        Check.sentence("21: everything except the pad, the slots and the history");
        TapeEnds t = new TapeEnds();
        t.move(9);
        Check.put(t, "m7;m8");
        t.write(0, 5, 5);
        t.save(0);
        t.cut(0, 0);
        t.save(1);
        t.undo();
        t.undo();
        t.undo();
        Check.due("the head", t.count(3), 0);
        Check.due("the pad's length", t.count(10), 5);
        Check.due("the pad", t.carryOut(), 2);
        Check.due("the slot 0", t.restore(0), 1);
        Check.due("the slot 0: the sum", t.ofBlock(0, 0, 1), 5);
        Check.due("the slot 1", t.restore(1), 0);
        Check.due("the slot 1: the head", t.count(3), 9);
    }

    private static void saveCountsBlocks() {
        Check.sentence("22: Returns how many blocks there are");
        TapeEnds t = new TapeEnds();
        Check.due("save(0) of none", t.save(0), 0);
        for (int i = 1; i <= 40; i++) {
            t.write(i % 2, 1, i);
            Check.due("save of " + i, t.save(i % 3 == 0 ? 1 : 0), i);
        }
        Check.due("restore(0)", t.restore(0), 40);
        Check.due("restore(1)", t.restore(1), 39);
    }

    private static void slotRange() {
        Check.sentence("22 and 23: slot: 0 or 1; BAD_VALUE if there is no such slot");
        TapeEnds t = new TapeEnds();
        Check.due("save(-1)", t.save(-1), TapeEnds.BAD_VALUE);
        Check.due("save(0)", t.save(0), 0);
        Check.due("save(1)", t.save(1), 0);
        Check.due("save(2)", t.save(2), TapeEnds.BAD_VALUE);
        Check.due("restore(-1)", t.restore(-1), TapeEnds.BAD_VALUE);
        Check.due("restore(0)", t.restore(0), 0);
        Check.due("restore(1)", t.restore(1), 0);
        Check.due("restore(2)", t.restore(2), TapeEnds.BAD_VALUE);
    }

    private static void saveOverwrites() {
        Check.sentence("22: and overwrites what was saved there; 23: Restores what was saved last in a slot");
        for (int slot = 0; slot < 2; slot++) {
            TapeEnds t = new TapeEnds();
            t.write(0, 50, 1);
            t.write(1, 50, 2);
            t.save(slot);
            t.save(1 - slot);
            t.cut(1, 0);
            t.move(7);
            t.save(slot);
            t.move(600);
            Check.due("restore", t.restore(slot), 1);
            Check.due("the head", t.count(3), 7);
            Check.due("the other slot", t.restore(1 - slot), 2);
        }
    }

    private static void saveIsApart() {
        Check.sentence("22: Saves (what is changed later does not change what was saved)");
        for (int slot = 0; slot < 2; slot++) {
            TapeEnds t = new TapeEnds();
            changeAll(t);
            t.save(slot);
            String saved = brief(t) + t.count(0) + " " + t.ofBlock(0, 1, 5);
            t.read(0, 1, 0);
            t.splice(30, 1);
            t.cut(0, 1);
            t.write(0, 1, 1);
            t.tune(1, 1);
            t.undo();
            t.undo();
            Check.due("restore", t.restore(slot), 6);
            Check.same("restore", brief(t) + t.count(0) + " " + t.ofBlock(0, 1, 5), saved);
        }
    }

    private static void restoreNeedsASave() {
        Check.sentence("23: NOT_POSSIBLE if nothing was saved in it");
        for (int slot = 0; slot < 2; slot++) {
            TapeEnds t = new TapeEnds();
            Check.due("restore of none", t.restore(slot), TapeEnds.NOT_POSSIBLE);
            t.save(1 - slot);
            Check.due("restore of the other one", t.restore(slot), TapeEnds.NOT_POSSIBLE);
            t.save(slot);
            Check.due("restore of an empty tape", t.restore(slot), 0);
        }
    }

    private static void slotKeeps() {
        Check.sentence("23: Restores what was saved last in a slot, which keeps it");
        TapeEnds t = new TapeEnds();
        t.write(0, 10, 33);
        t.write(1, 20, 44);
        t.save(1);
        String saved = brief(t);
        for (int times = 0; times < 9; times++) {
            t.cut(0, 0);
            t.write(1, 1, 1);
            t.splice(100, 1);
            t.move(times);
            Check.due("restore " + times, t.restore(1), 2);
            Check.same("restore " + times, brief(t), saved);
            Check.due("the sum", t.ofBlock(0, 0, 1), 33);
            Check.due("LENGTH", t.count(0), 600);
        }
    }

    private static void restoreBringsAllBack() {
        Check.sentence("22: Saves everything except the pad, the history and the slots");
        TapeEnds t = new TapeEnds();
        changeAll(t);
        String before = Check.state(t);
        t.save(0);
        t.cut(0, 0);
        t.cut(1, 0);
        t.tune(9, 9);
        t.splice(200, 3);
        t.write(0, 1, 1);
        t.write(1, 1, 1);
        t.read(0, 0, 0);
        t.restore(0);
        Check.same("restore", Check.state(t), before);
    }

    /** 20 blocks in both files, of other numbers for another key; 81 calls. */
    private static void fill(TapeEnds t, int key) {
        t.tune(10 + key, 1 + key);
        for (int block = 0; block < 20; block++) {
            for (int file = 0; file < 2; file++) {
                t.write(file, 1 + (block + key) % 7, 100 * key + 40 * file + block);
                t.read(file, block, key % 2);
            }
        }
    }

    private static void restoreOfFullFiles() {
        Check.sentence("22: Saves everything (of 20 blocks in both files)");
        for (int slot = 0; slot < 2; slot++) {
            TapeEnds saved = new TapeEnds();
            fill(saved, 1);
            TapeEnds t = new TapeEnds();
            fill(t, 1);
            t.save(slot);
            t.cut(0, 0);
            t.cut(1, 0);
            t.tune(10, 3);
            for (int i = 0; i < 40; i++) {
                t.write(i % 2, 8, 9);
            }
            Check.due("restore", t.restore(slot), 40);
            Check.same("restore", Check.state(t), Check.state(saved));
        }
    }

    private static void undoOfFullFiles() {
        Check.sentence("21: everything is as it was before it (of 20 blocks in both files)");
        TapeEnds t = new TapeEnds();
        t.tune(15, 5);
        for (int i = 0; i < 40; i++) {
            t.write(i % 2, 1, 1);
        }
        t.save(1);
        t.cut(0, 0);
        t.cut(1, 0);
        TapeEnds twin = new TapeEnds();
        twin.move(t.count(3));
        for (TapeEnds one : new TapeEnds[] {t, twin}) {
            fill(one, 2);
        }
        t.restore(1);
        t.undo();
        Check.due("blocks", t.count(5), 40);
        for (int file = 0; file < 2; file++) {
            for (int block = 0; block < 20; block++) {
                for (int what = 0; what <= 5; what++) {
                    Check.due("ofBlock(" + file + ", " + block + ", " + what + ")", t.ofBlock(file, block, what),
                        twin.ofBlock(file, block, what));
                }
            }
        }
    }

    private static void restoreLeavesPadHistoryAndSlots() {
        Check.sentence("22: everything except the pad, the history and the slots (they stay as they are)");
        TapeEnds t = new TapeEnds();
        Check.put(t, "m1");
        t.save(0);
        Check.put(t, "2;m3");
        t.write(0, 5, 5);
        t.save(1);
        t.move(77);
        t.restore(0);
        Check.due("the pad's length", t.count(10), 6);
        Check.due("the history", t.count(11), 3);
        Check.due("the other slot", t.restore(1), 1);
        t.undo();
        t.undo();
        Check.due("the head before the restore", t.count(3), 77);
        Check.due("the pad", t.carryOut(), 2);
        Check.due("the pad's last order", t.count(3), 3);
    }

    private static void restoreIsAChange() {
        Check.sentence("23: This is a change; Returns how many blocks there are then");
        TapeEnds t = new TapeEnds();
        t.write(0, 4, 4);
        t.save(0);
        t.write(1, 4, 4);
        t.save(1);
        Check.due("restore(0)", t.restore(0), 1);
        Check.due("restore(1)", t.restore(1), 2);
        Check.due("changes", t.count(11), 4);
        Check.due("undo", t.undo(), 3);
        Check.due("blocks", t.count(5), 1);
        Check.due("undo", t.undo(), 2);
        Check.due("blocks", t.count(5), 2);
        for (int i = 0; i < 6; i++) {
            t.restore(0);
        }
        Check.due("at most 6", t.count(11), 6);
    }
}
