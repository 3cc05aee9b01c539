/** Promises 46 to 48: undo, save and restore. */
final class UndoTest {
    private static final Class<IllegalStateException> STATE = IllegalStateException.class;

    public static void main(String[] args) {
        eachModification();
        eightAtMost();
        failuresAreNotUndone();
        snapshots();
        restoreForgets();
        snapshotIsKept();
        Check.end();
    }

    private interface Change {
        Object on(StoneQuarry x);
    }

    /** Each on an object of its own, so that none is used for more calls than the document allows. */
    private static void undone(String call, Change modification) {
        StoneQuarry x = Check.rich();
        x.addCharge(5, 5, 8);
        String before = Check.stateOf(x);
        modification.on(x);
        if (Check.stateOf(x).equals(before)) {
            Check.report(call + " changed nothing");
        }
        int left = x.undo();
        Check.due("the state after " + call + " and undo", before, () -> Check.stateOf(x));
        Check.due("undos left after " + call, 5, () -> left);
    }

    private static void eachModification() {
        undone("setHardness", x -> x.setHardness(5, 5, 1));
        undone("addCharge", x -> x.addCharge(5, 4, 9));
        undone("removeCharge", x -> x.removeCharge(0));
        undone("ignite", x -> x.ignite(0));
        undone("dig", x -> x.dig(5, 0));
        undone("setPrice", x -> x.setPrice(1, 9));
        undone("sell", x -> x.sell(11));
        undone("execute", x -> Check.execute(x, "ignite 0;rock 5 0 9;sell 9;dig 5 0;price 9 9"));
        StoneQuarry same = Check.rich();
        same.setPrice(2, 0);
        Check.due("a modification to the same value counts", 4, same::undo);
        same.setHardness(5, 5, 5);
        Check.due("a hardness set to the same value counts", 4, same::undo);
    }

    private static void eightAtMost() {
        StoneQuarry x = new StoneQuarry();
        Check.fails("undo at first", STATE, x::undo);
        for (int price = 1; price <= 20; price++) {
            x.setPrice(1, price);
        }
        for (int left = 7; left >= 0; left--) {
            Check.due("undo", left, x::undo);
            int price = 12 + left;
            Check.due("priceOf(1)", price, () -> x.priceOf(1));
        }
        Check.fails("a ninth undo", STATE, x::undo);
        Check.due("priceOf(1) stays", 12, () -> x.priceOf(1));
        x.setPrice(1, 50);
        x.setPrice(1, 51);
        Check.due("undo of a newer one", 1, x::undo);
        Check.due("priceOf(1)", 50, () -> x.priceOf(1));
        x.setPrice(1, 60);
        Check.due("undo", 1, x::undo);
        Check.due("priceOf(1)", 50, () -> x.priceOf(1));
        Check.due("undo", 0, x::undo);
        Check.due("priceOf(1)", 12, () -> x.priceOf(1));
    }

    private static void failuresAreNotUndone() {
        StoneQuarry x = new StoneQuarry();
        x.setPrice(1, 5);
        Check.outcome(() -> x.setHardness(6, 6, 6));
        Check.outcome(() -> x.addCharge(0, 0, 10));
        Check.outcome(() -> x.removeCharge(0));
        Check.outcome(() -> x.ignite(0));
        Check.outcome(() -> x.dig(0, 0));
        Check.outcome(() -> x.setPrice(0, 0));
        Check.outcome(() -> x.sell(1));
        Check.outcome(() -> Check.execute(x, "price 1 6;sell 1"));
        Check.outcome(() -> Check.execute(x, "price 1 6;"));
        Check.outcome(x::restore);
        Check.due("undo", 0, x::undo);
        Check.due("priceOf(1)", 0, () -> x.priceOf(1));
    }

    private static void snapshots() {
        StoneQuarry x = Check.rich();
        x.addCharge(5, 5, 8);
        x.addCharge(5, 0, 2);
        String saved = Check.stateOf(x);
        Check.due("save", 2, x::save);
        Check.due("save is no modification", saved, () -> Check.stateOf(x));
        x.ignite(0);
        x.setPrice(1, 77);
        x.sell(9);
        x.dig(4, 1);
        Check.due("restore", 2, x::restore);
        Check.due("the state after restore", saved, () -> Check.stateOf(x));
        Check.fails("undo after restore", STATE, x::undo);
    }

    private static void restoreForgets() {
        StoneQuarry x = new StoneQuarry();
        Check.fails("restore without a snapshot", STATE, x::restore);
        x.setPrice(1, 1);
        x.save();
        Check.due("save keeps what can be undone", 0, x::undo);
        Check.due("priceOf(1)", 0, () -> x.priceOf(1));
        Check.due("restore", 0, x::restore);
        Check.due("priceOf(1)", 1, () -> x.priceOf(1));
        Check.fails("undo", STATE, x::undo);
        x.setPrice(1, 2);
        Check.due("what follows can be undone", 0, x::undo);
        Check.due("priceOf(1)", 1, () -> x.priceOf(1));
    }

    private static void snapshotIsKept() {
        StoneQuarry x = new StoneQuarry();
        x.addCharge(1, 1, 1);
        x.save();
        x.addCharge(2, 2, 2);
        Check.due("restore", 1, x::restore);
        x.removeCharge(0);
        Check.due("restore again", 1, x::restore);
        Check.due("chargeRow(0)", 1, () -> x.chargeRow(0));
        x.addCharge(3, 3, 3);
        Check.due("a later save", 2, x::save);
        x.removeCharge(0);
        x.removeCharge(0);
        Check.due("restore of the later one", 2, x::restore);
        Check.due("chargeRow(1)", 3, () -> x.chargeRow(1));
    }
}
