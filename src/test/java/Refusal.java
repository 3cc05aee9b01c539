/** Behind a refused call, all that an object can answer must be the same as on a twin that did not get the call. */
final class Refusal {
    private static final int MOST_UNDOS = 8;

    interface Maker {
        StoneQuarry make();
    }

    interface Act {
        Object on(StoneQuarry x);
    }

    private Refusal() {
    }

    /** The call throws what is due and changes nothing at all. */
    static void due(String call, Class<? extends RuntimeException> want, Maker maker, Act act) {
        Check.fails(call, want, () -> act.on(maker.make()));
        changesNothing(call, maker, act);
        same(call, "the stored positions", maker, act, Refusal::positionsOf);
        same(call, "the length of the buffer", maker, act, x -> Check.outcome(() -> x.type('1')));
        same(call, "the text in the buffer", maker, act,
            x -> Check.outcome(x::execute) + positionsOf(x) + Check.stateOf(x));
    }

    /** The text is refused with what is due; the buffer is empty afterwards, and all else but the positions is left. */
    static void ofText(String text, Class<? extends RuntimeException> want, Maker maker) {
        String call = "execute of \"" + text + "\"";
        Act act = x -> Check.execute(x, text);
        Check.fails(call, want, () -> act.on(maker.make()));
        changesNothing(call, maker, act);
        StoneQuarry x = maker.make();
        Check.outcome(() -> act.on(x));
        Check.due(call + ", then the length of the buffer with one character", 1, () -> x.type('1'));
    }

    private static void changesNothing(String call, Maker maker, Act act) {
        same(call, "the state", maker, act, Check::stateOf);
        same(call, "the line", maker, act, Refusal::lineOf);
        same(call, "the snapshot", maker, act, x -> Check.outcome(x::restore) + Check.stateOf(x));
        for (int undos = 1; undos <= MOST_UNDOS + 1; undos++) {
            int count = undos;
            same(call, "the state after undo " + undos, maker, act, x -> undone(x, count));
        }
    }

    private static void same(String call, String what, Maker maker, Act act, Act view) {
        StoneQuarry x = maker.make();
        Check.outcome(() -> act.on(x));
        Check.due(call + ", then " + what, view.on(maker.make()), () -> view.on(x));
    }

    private static String undone(StoneQuarry x, int count) {
        StringBuilder all = new StringBuilder();
        for (int undo = 0; undo < count; undo++) {
            all.append(Check.outcome(x::undo)).append(' ');
        }
        return all + Check.stateOf(x);
    }

    /** The stored error position and the stored index of the failed command. */
    static String positionsOf(StoneQuarry x) {
        return Check.outcome(x::errorPosition) + " " + Check.outcome(x::failedCommand);
    }

    /** All the characters of the line, whatever its length. */
    static String lineOf(StoneQuarry x) {
        StringBuilder line = new StringBuilder();
        for (int index = 0; index < 10; index++) {
            int place = index;
            line.append(Check.outcome(() -> x.lineAt(place))).append(' ');
        }
        return line.toString();
    }
}
