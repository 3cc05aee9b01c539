import java.util.ArrayList;
import java.util.List;

/** Promises 46 to 48 at their edges: each test names the sentence that it tests. */
final class UndoEdgesTest {
    private static final Class<IllegalStateException> STATE = IllegalStateException.class;

    public static void main(String[] args) {
        run();
        Sentence.allNamed(46, 48);
        Check.end();
    }

    static void run() {
        undo();
        save();
        restore();
    }

    // Promise 46.

    private static void undo() {
        Sentence.test(46, "Undoes the last modification that can be undone.", () -> {
            for (int modifications = 1; modifications <= 26; modifications++) {
                lastOfMany(modifications);
            }
            backAndForth();
        });
        Sentence.test(46, "Returns the number of modifications that can still be undone.", () -> {
            for (int modifications = 1; modifications <= 26; modifications++) {
                StoneQuarry x = priced(modifications);
                for (int left = Math.min(modifications, 8) - 1; left >= 0; left--) {
                    Check.due("undo of " + modifications, left, x::undo);
                }
            }
        });
        Sentence.test(46, "Throws `IllegalStateException` if there is none", () -> {
            Refusal.due("undo at first", STATE, StoneQuarry::new, StoneQuarry::undo);
            Refusal.due("undo at first, with a text", STATE, () -> Quarries.with(new StoneQuarry(), "price 1 2"),
                StoneQuarry::undo);
            Refusal.due("undo behind eight undos", STATE, () -> undone(Quarries.typing(), 8), StoneQuarry::undo);
            Refusal.due("undo of the only one twice", STATE, () -> undone(priced(1), 1), StoneQuarry::undo);
            Refusal.due("undo behind restore", STATE, UndoEdgesTest::restored, StoneQuarry::undo);
        });
    }

    /** The prices 1, 2, .. of length 1, one after the other. */
    private static StoneQuarry priced(int modifications) {
        StoneQuarry x = new StoneQuarry();
        for (int price = 1; price <= modifications; price++) {
            x.setPrice(1, price);
        }
        return x;
    }

    private static StoneQuarry undone(StoneQuarry x, int count) {
        for (int undo = 0; undo < count; undo++) {
            x.undo();
        }
        return x;
    }

    private static StoneQuarry restored() {
        StoneQuarry x = Quarries.typing();
        x.restore();
        return x;
    }

    private static StoneQuarry neverSaved() {
        StoneQuarry x = Quarries.sixCharges();
        x.writeCharge(5);
        return Quarries.with(x, "price 1 2");
    }

    private static void lastOfMany(int modifications) {
        StoneQuarry x = priced(modifications);
        int kept = Math.max(0, modifications - 8);
        for (int price = modifications - 1; price >= kept; price--) {
            int due = price;
            x.undo();
            Check.due("the price behind an undo of " + modifications, due, () -> x.priceOf(1));
        }
        Check.fails("one undo more of " + modifications, STATE, x::undo);
        Check.due("the price that is kept of " + modifications, kept, () -> x.priceOf(1));
    }

    /** Undos and new modifications in turn, so that the places of the remembered states wrap around. */
    private static void backAndForth() {
        StoneQuarry x = new StoneQuarry();
        List<Integer> earlier = new ArrayList<>();
        int price = 0;
        for (int turn = 1; turn <= 15; turn++) {
            for (int count = 0; count < turn % 9 + 1; count++) {
                earlier.add(price);
                price = price == 99 ? 1 : price + 1;
                x.setPrice(1, price);
            }
            earlier = new ArrayList<>(earlier.subList(Math.max(0, earlier.size() - 8), earlier.size()));
            for (int count = 0; count < turn * 5 % 8 && !earlier.isEmpty(); count++) {
                price = earlier.remove(earlier.size() - 1);
                Check.due("undo of turn " + turn, earlier.size(), x::undo);
                int due = price;
                Check.due("the price of turn " + turn, due, () -> x.priceOf(1));
            }
        }
    }

    // Promise 47.

    private static void save() {
        Sentence.test(47, "Saves the state as a snapshot, which replaces an earlier snapshot.", UndoEdgesTest::snapshots);
        Sentence.test(47, "Returns the number of charges.", () -> {
            Check.due("none", 0, new StoneQuarry()::save);
            Check.due("six", 6, Quarries.sixCharges()::save);
        });
    }

    private static void snapshots() {
        StoneQuarry x = Quarries.busy();
        String saved = Check.stateOf(x);
        x.save();
        Check.due("the state behind save", saved, () -> Check.stateOf(x));
        Check.due("undo behind save", 7, x::undo);
        x.restore();
        Check.due("the later snapshot", saved, () -> Check.stateOf(x));
        StoneQuarry fresh = new StoneQuarry();
        String empty = Check.stateOf(fresh);
        fresh.save();
        fresh.addCharge(0, 0, 9);
        fresh.ignite(0);
        fresh.restore();
        Check.due("the snapshot of a new quarry", empty, () -> Check.stateOf(fresh));
        StoneQuarry open = Quarries.allOpen();
        String all = Check.stateOf(open);
        open.save();
        undone(open, 8);
        open.restore();
        Check.due("the snapshot of open cells only", all, () -> Check.stateOf(open));
    }

    // Promise 48.

    private static void restore() {
        Sentence.test(48, "Restores the snapshot, which is kept.", () -> {
            StoneQuarry x = Quarries.busy();
            x.restore();
            String saved = Check.stateOf(x);
            Check.due("restore at once", 1, x::restore);
            Check.due("the snapshot again", saved, () -> Check.stateOf(x));
            x.ignite(0);
            x.setPrice(10, 99);
            x.sell(30);
            Check.due("restore behind modifications", 1, x::restore);
            Check.due("the snapshot a third time", saved, () -> Check.stateOf(x));
        });
        Sentence.test(48, "Afterwards nothing can be undone.", () -> {
            StoneQuarry x = Quarries.busy();
            x.restore();
            Check.fails("undo behind restore", STATE, x::undo);
            x.setPrice(1, 50);
            Check.due("undo of what came afterwards", 0, x::undo);
            Check.fails("undo of what came before", STATE, x::undo);
            for (int price = 1; price <= 9; price++) {
                x.setPrice(1, price);
            }
            Check.due("undo of nine", 7, x::undo);
            undone(x, 7);
            Check.due("the price behind eight undos", 1, () -> x.priceOf(1));
            StoneQuarry same = priced(3);
            same.save();
            same.restore();
            Check.fails("undo behind a restore that changed nothing", STATE, same::undo);
        });
        Sentence.test(48, "Returns the number of charges.", () -> {
            StoneQuarry x = new StoneQuarry();
            x.save();
            x.addCharge(1, 1, 1);
            Check.due("none", 0, x::restore);
            StoneQuarry six = Quarries.sixCharges();
            six.save();
            undone(six, 7);
            Check.due("six", 6, six::restore);
        });
        Sentence.test(48, "Throws `IllegalStateException` if there is no snapshot", () -> {
            Refusal.due("restore at first", STATE, StoneQuarry::new, StoneQuarry::restore);
            Refusal.due("restore of what can be undone", STATE, UndoEdgesTest::neverSaved, StoneQuarry::restore);
            Refusal.due("restore with a text", STATE, () -> Quarries.with(Check.rich(), "price 1 2"),
                StoneQuarry::restore);
        });
    }
}
