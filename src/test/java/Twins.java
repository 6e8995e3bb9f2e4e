/** Two tapes that are made ready alike: one gets a call more, and whatever is asked later has to be alike in both. */
final class Twins {
    /** Calls on a tape. */
    interface Calls {
        void on(TapeEnds tape);
    }

    /** One call on a tape, with its answer. */
    interface Call {
        int on(TapeEnds tape);
    }

    // The pad's characters, the history and the slots are seen only by what calls do later. Each way to look
    // gets tapes of its own, so that no tape gets more than 512 calls.
    private static final Calls[] LOOKS = {
        t -> { },
        t -> t.carryOut(),
        t -> {
            t.put('x');
            t.carryOut();
        },
        t -> t.restore(0),
        t -> t.restore(1),
        t -> undo(t, 1),
        t -> undo(t, 2),
        t -> undo(t, 3),
        t -> undo(t, 4),
        t -> undo(t, 5),
        t -> undo(t, 6)};

    private Twins() {
    }

    private static void undo(TapeEnds t, int times) {
        for (int i = 0; i < times; i++) {
            t.undo();
        }
    }

    /** The call answers what is due, and changes nothing: not the tape, the pad, the history or a slot. */
    static void changesNothing(String name, Calls ready, Call call, int due) {
        for (int look = 0; look < LOOKS.length; look++) {
            TapeEnds asked = new TapeEnds();
            TapeEnds spared = new TapeEnds();
            ready.on(asked);
            ready.on(spared);
            Check.due(name, call.on(asked), due);
            LOOKS[look].on(asked);
            LOOKS[look].on(spared);
            Check.same(name + " changes nothing (look " + look + ")", Check.state(asked), Check.state(spared));
        }
    }
}
