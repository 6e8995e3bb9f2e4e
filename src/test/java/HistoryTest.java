/** Promises 21 to 23: undo, save and restore. */
public final class HistoryTest {
    public static void main(String[] args) {
        undoOfEveryChange();
        undoAtMostSix();
        errorsRecordNothing();
        undoLeavesPadAndSlots();
        save();
        restore();
        restoreIsAChange();
        Check.end();
    }

    private static TapeEnds example() {
        TapeEnds t = new TapeEnds();
        t.write(0, 20, 55);
        t.write(0, 30, 66);
        t.write(1, 40, 77);
        t.read(0, 0, 1);
        t.save(0);
        return t;
    }

    private static int change(TapeEnds t, int kind) {
        switch (kind) {
            case 0: return t.tune(3, 4);
            case 1: return t.write(1, 7, 7);
            case 2: return t.cut(0, 1);
            case 3: return t.move(5);
            case 4: return t.move(t.count(3));
            case 5: return t.rewind();
            case 6: return t.read(0, 0, 0);
            case 7: return t.splice(3, 3);
            case 8: return t.splice(100, 3);
            case 9: return t.restore(0);
            case 10: return t.cut(0, 2);
            default: return t.carryOut();
        }
    }

    private static void undoOfEveryChange() {
        for (int kind = 0; kind <= 11; kind++) {
            TapeEnds t = example();
            t.move(77);
            if (kind == 11) {
                Check.put(t, "m5;c0.0;w0:9#9;r0.0");
            }
            t.undo();
            t.undo();
            t.move(77);
            String before = Check.state(t);
            int undoable = t.count(11);
            if (change(t, kind) < 0) {
                Check.tell("change " + kind + " fails");
            }
            Check.due("change " + kind + " records", t.count(11), undoable + 1);
            Check.due("undo of change " + kind, t.undo(), undoable);
            if (kind == 11) {
                Check.put(t, "m5;c0.0;w0:9#9;r0.0");
            }
            Check.same("undo of change " + kind, Check.state(t), before);
        }
        TapeEnds t = new TapeEnds();
        t.move(600);
        t.length(100);
        Check.due("undo of length", t.undo(), 1);
        Check.counts(t, "undo of length", 600, 10, 2, 600, 600, 0, 0, 0, 600, 0, 0, 1);
    }

    private static void undoAtMostSix() {
        TapeEnds t = new TapeEnds();
        Check.due("undo of none", t.undo(), TapeEnds.NOT_POSSIBLE);
        for (int i = 1; i <= 15; i++) {
            t.move(i);
            Check.due("changes that can be undone", t.count(11), Math.min(i, 6));
        }
        for (int i = 14; i >= 9; i--) {
            Check.due("undo", t.undo(), i - 9);
            Check.due("undo: the head", t.count(3), i);
        }
        Check.due("undo: no more", t.undo(), TapeEnds.NOT_POSSIBLE);
        Check.due("undo, none: the head", t.count(3), 9);
        t.move(33);
        Check.due("undo after more", t.undo(), 0);
        Check.due("undo after more: the head", t.count(3), 9);
    }

    private static void errorsRecordNothing() {
        TapeEnds t = example();
        String before = Check.state(t);
        t.length(600);
        t.length(1);
        t.tune(0, 0);
        t.write(0, 0, 0);
        t.cut(0, 3);
        t.move(-1);
        t.read(0, 2, 0);
        t.read(0, 0, 2);
        t.splice(0, 1);
        t.carryOut();
        t.restore(1);
        t.restore(2);
        t.put(0);
        Check.same("errors", Check.state(t), before);
        Check.due("undo after errors", t.undo(), 3);
        Check.due("undo after errors: reads", t.count(9), 0);
    }

    private static void undoLeavesPadAndSlots() {
        TapeEnds t = new TapeEnds();
        t.move(9);
        Check.put(t, "m7");
        t.write(0, 5, 5);
        t.save(1);
        t.undo();
        t.undo();
        Check.due("undo: the pad stays", t.count(10), 2);
        Check.due("undo: the slot stays", t.restore(1), 1);
        Check.due("undo: the slot's head", t.count(3), 9);
    }

    private static void save() {
        TapeEnds t = example();
        Check.due("save(1)", t.save(1), 3);
        Check.due("save(-1)", t.save(-1), TapeEnds.BAD_VALUE);
        Check.due("save(2)", t.save(2), TapeEnds.BAD_VALUE);
        Check.due("save is no change", t.count(11), 4);
        t.cut(0, 0);
        Check.due("save(1) again", t.save(1), 1);
        t.cut(1, 0);
        Check.due("save: overwritten", t.restore(1), 1);
        Check.due("save: the other slot", t.restore(0), 3);
    }

    private static void restore() {
        TapeEnds t = new TapeEnds();
        Check.due("restore(-1)", t.restore(-1), TapeEnds.BAD_VALUE);
        Check.due("restore(2)", t.restore(2), TapeEnds.BAD_VALUE);
        Check.due("restore(1) of none", t.restore(1), TapeEnds.NOT_POSSIBLE);
        t.length(500);
        t.tune(4, 5);
        t.write(0, 20, 55);
        t.write(1, 40, 77);
        t.splice(6, 3);
        t.read(1, 0, 0);
        String before = Check.state(t);
        t.save(1);
        Check.due("restore(0) of none", t.restore(0), TapeEnds.NOT_POSSIBLE);
        for (int times = 0; times < 2; times++) {
            t.cut(0, 0);
            t.cut(1, 0);
            t.tune(9, 9);
            t.splice(200, 3);
            t.write(0, 1, 1);
            t.write(1, 1, 1);
            t.read(0, 0, 0);
            Check.due("restore(1)", t.restore(1), 2);
            Check.same("restore", Check.state(t), before);
        }
        Check.put(t, "m9");
        t.restore(1);
        Check.due("restore: the pad stays", t.count(10), 2);
    }

    private static void restoreIsAChange() {
        TapeEnds t = new TapeEnds();
        t.save(0);
        t.move(50);
        t.write(0, 4, 4);
        Check.due("restore(0)", t.restore(0), 0);
        Check.due("restore: records", t.count(11), 3);
        Check.due("restore: undo", t.undo(), 2);
        Check.due("restore, undone", t.count(5), 1);
        Check.due("restore, undone: the head", t.count(3), 8);
    }
}
