import java.util.NoSuchElementException;

/** The edges that "Terms" names of texts, undo and exceptions. */
final class CommandTerms {
    private static final Class<IllegalArgumentException> ARGUMENT = IllegalArgumentException.class;
    private static final Class<IllegalStateException> STATE = IllegalStateException.class;
    private static final Class<IndexOutOfBoundsException> INDEX = IndexOutOfBoundsException.class;
    private static final Class<UnsupportedOperationException> TOO_LITTLE = UnsupportedOperationException.class;
    private static final Class<NoSuchElementException> NONE = NoSuchElementException.class;

    private static final String[] WELL_FORMED = {"rock 0 0 0", "rock 9 9 9", "charge 0 0 0", "charge 9 9 9", "remove 0",
        "remove 9", "ignite 0", "ignite 9", "dig 0 0", "dig 9 9", "price 0 0", "price 9 9", "price 00 00", "price 99 99",
        "price 9 99", "price 99 9", "sell 0", "sell 9", "sell 00", "sell 99", "sell 0;sell 0", "sell 00;sell 00",
        "remove 0;rock 0 0 0", "sell 1;sell 1;sell 1;sell 1;sell 1;sell 1;sell 1;sell 1",
        Quarries.FULL_TEXT};

    /** Each malformed text, behind the position of its error. */
    private static final String[][] MALFORMED = {{"0", ""}, {"0", " "}, {"0", ";"}, {"0", "0"}, {"0", "~"}, {"0", "R"},
        {"1", "r"}, {"1", "rr"}, {"2", "ro"}, {"2", "re"}, {"1", "rx"},
        {"3", "roc"}, {"4", "rock"}, {"4", "rocks"}, {"4", "rock0"}, {"5", "rock "}, {"5", "rock  0 0 0"},
        {"5", "rock / 0 0"}, {"5", "rock : 0 0"}, {"6", "rock 0"}, {"6", "rock 00 0 0"}, {"6", "rock 0;"},
        {"7", "rock 0 "}, {"8", "rock 0 0"}, {"8", "rock 0 0;"}, {"9", "rock 0 0 "}, {"10", "rock 0 0 00"},
        {"10", "rock 0 0 0 "}, {"10", "rock 0 0 0 0"}, {"10", "rock 0 0 0/"}, {"11", "rock 0 0 0;"},
        {"11", "rock 0 0 0; "}, {"11", "rock 0 0 0;;"}, {"6", "charge"}, {"12", "charge 0 0 00"}, {"10", "charge 0 0"},
        {"6", "remove"}, {"8", "remove 00"}, {"8", "remove 0 0"}, {"6", "ignite"}, {"8", "ignite 00"},
        {"8", "ignite 0 0"}, {"3", "dig"}, {"5", "dig 0"}, {"5", "dig 00 0"}, {"7", "dig 0 00"}, {"7", "dig 0 0 0"},
        {"5", "price"}, {"7", "price 0"}, {"8", "price 00"}, {"8", "price 000 0"}, {"9", "price 00 "},
        {"11", "price 00 000"}, {"9", "price 0 0 "}, {"10", "price 0 00 0"}, {"10", "price 0 00x"}, {"4", "sell"},
        {"5", "sell "}, {"5", "sell  0"}, {"7", "sell 000"}, {"6", "sell 0 "}, {"7", "sell 00 0"}, {"6", "sell 0/"},
        {"6", "sell 0:"}, {"7", "sell 0;"}, {"8", "sell 00;"}, {"8", "sell 00;;"}, {"8", "sell 0;s"}};

    private CommandTerms() {
    }

    static void run() {
        text();
        undo();
        exceptions();
    }

    private static void test(String words, Runnable test) {
        Sentence.test(Sentence.TERMS, words, test);
    }

    // Text.

    private static void text() {
        test("Characters are collected in a buffer of at most 60 characters.", () -> {
            StoneQuarry x = Quarries.busy();
            Quarries.with(x, Quarries.FULL_TEXT.substring(0, 59));
            Check.due("the sixtieth", 60, () -> x.type('2'));
            Check.fails("one more", STATE, () -> x.type(';'));
            Check.due("execute", 5, x::execute);
            Check.due("the strength that the sixtieth gives", 2, () -> x.chargeStrength(3));
        });
        test("A command text has the following grammar, with terminals in quotes: text = command { \";\" command }; command = \"rock\" d d d | \"charge\" d d d | \"remove\" d | \"ignite\" d | \"dig\" d d | \"price\" n n | \"sell\" n; d is a blank and a decimal digit, and n is a blank and one or two decimal digits.",
            CommandTerms::grammar);
        test("The commands stand for setHardness, addCharge, removeCharge, ignite, dig, setPrice and sell, with their parameters in order.",
            CommandTerms::meanings);
        test("The error position of a malformed text is the index of its first character that cannot continue any valid text, or its length if it ends too early.",
            CommandTerms::errorPositions);
    }

    private static void grammar() {
        for (String text : WELL_FORMED) {
            StoneQuarry x = new StoneQuarry();
            String got = Check.outcome(() -> Check.execute(x, text));
            Check.due("\"" + text + "\" is well-formed", false, () -> got.equals("throws.IllegalArgumentException"));
        }
        for (String[] text : MALFORMED) {
            Check.fails("\"" + text[1] + "\"", ARGUMENT, () -> Check.execute(new StoneQuarry(), text[1]));
        }
    }

    private static void meanings() {
        same("rock 0 5 9", x -> x.setHardness(0, 5, 9));
        same("rock 5 1 1", x -> x.setHardness(5, 1, 1));
        same("charge 0 5 9", x -> x.addCharge(0, 5, 9));
        same("charge 5 1 2", x -> x.addCharge(5, 1, 2));
        same("remove 0", x -> x.removeCharge(0));
        same("remove 1", x -> x.removeCharge(1));
        same("remove 2", x -> x.removeCharge(2));
        same("ignite 0", x -> x.ignite(0));
        same("ignite 1", x -> x.ignite(1));
        same("dig 0 5", x -> x.dig(0, 5));
        same("dig 5 1", x -> x.dig(5, 1));
        same("price 1 99", x -> x.setPrice(1, 99));
        same("price 10 0", x -> x.setPrice(10, 0));
        same("price 09 08", x -> x.setPrice(9, 8));
        same("sell 1", x -> x.sell(1));
        same("sell 30", x -> x.sell(30));
        same("sell 09", x -> x.sell(9));
    }

    private static void same(String text, Refusal.Act act) {
        StoneQuarry byText = Quarries.busy();
        Check.due("execute of \"" + text + "\"", 1, () -> Check.execute(byText, text));
        StoneQuarry byCall = Quarries.busy();
        act.on(byCall);
        Check.due("the state behind \"" + text + "\"", Check.stateOf(byCall), () -> Check.stateOf(byText));
    }

    private static void errorPositions() {
        for (String[] text : MALFORMED) {
            StoneQuarry x = new StoneQuarry();
            Check.outcome(() -> Check.execute(x, text[1]));
            Check.due("errorPosition of \"" + text[1] + "\"", text[0], x::errorPosition);
        }
    }

    // Undo.

    private static void undo() {
        test("The last 8 successful modifications can be undone.", () -> {
            for (int modifications = 0; modifications <= 17; modifications++) {
                StoneQuarry x = new StoneQuarry();
                for (int price = 1; price <= modifications; price++) {
                    x.setPrice(1, price);
                }
                int due = Math.min(8, modifications);
                Check.due("undos of " + modifications, due, () -> undosOf(x));
                int price = modifications - due;
                Check.due("the price that is kept of " + modifications, price, () -> x.priceOf(1));
            }
        });
        test("The modifications are the successful calls of setHardness, addCharge, removeCharge, ignite, dig, setPrice, sell and execute.",
            CommandTerms::modifications);
        test("The text buffer, the error position, the index of the failed command and the line are not part of the state that is undone, saved or restored.",
            CommandTerms::notPartOfTheState);
    }

    private static int undosOf(StoneQuarry x) {
        int undos = 0;
        while (undos < 20 && !Check.outcome(x::undo).startsWith("throws.")) {
            undos++;
        }
        return undos;
    }

    /** Four modifications can be undone, and none of those ahead of the restore. */
    private static StoneQuarry fourToUndo() {
        StoneQuarry x = Check.rich();
        x.save();
        x.restore();
        x.addCharge(5, 5, 1);
        x.addCharge(5, 4, 1);
        x.addCharge(5, 3, 1);
        x.setHardness(5, 5, 5);
        return x;
    }

    private static void undos(int want, String call, Refusal.Act act) {
        StoneQuarry x = fourToUndo();
        Check.outcome(() -> act.on(x));
        Check.due("undos behind " + call, want, () -> undosOf(x));
    }

    private static void modifications() {
        undos(5, "setHardness", x -> x.setHardness(5, 5, 5));
        undos(5, "addCharge", x -> x.addCharge(5, 0, 1));
        undos(5, "removeCharge", x -> x.removeCharge(0));
        undos(5, "ignite, which opens nothing", x -> x.ignite(0));
        undos(5, "dig", x -> x.dig(5, 0));
        undos(5, "setPrice to the same", x -> x.setPrice(1, 0));
        undos(5, "sell", x -> x.sell(1));
        undos(5, "execute of one command", x -> Check.execute(x, "price 1 0"));
        undos(5, "execute of many commands", x -> Check.execute(x, "price 1 0;price 1 1;sell 1;sell 1;remove 0"));
        refusedModifications();
        readings();
        undos(4, "save", StoneQuarry::save);
        undos(0, "restore", StoneQuarry::restore);
        undos(3, "undo", StoneQuarry::undo);
        undos(4, "type", x -> x.type('1'));
    }

    private static void refusedModifications() {
        undos(4, "a refused setHardness", x -> x.setHardness(0, 0, 5));
        undos(4, "a refused addCharge", x -> x.addCharge(5, 5, 1));
        undos(4, "a refused removeCharge", x -> x.removeCharge(3));
        undos(4, "a refused ignite", x -> x.ignite(3));
        undos(4, "a refused dig", x -> x.dig(5, 5));
        undos(4, "a refused setPrice", x -> x.setPrice(1, 100));
        undos(4, "a refused sell", x -> x.sell(0));
        undos(4, "a malformed text", x -> Check.execute(x, "price 1 0;"));
        undos(4, "a failing text", x -> Check.execute(x, "price 1 0;sell 0"));
    }

    private static void readings() {
        undos(4, "readings of the wall", x -> Check.stateOf(x) + x.openCount() + x.veinCount(5) + x.veinSize(5, 5)
            + x.meanHardness() + x.openShare());
        undos(4, "readings of the charges", x -> x.chainOf(0) + x.chainByRounds(0) + x.opensOf(0) + x.bestCharge());
        undos(4, "readings of the ways", x -> x.tunnelCost() + x.tunnelByRounds() + x.mostSlabs() + x.slabsByCells()
            + x.largestBlock() + x.blockByHeights());
        undos(4, "readings of the cuts", x -> x.bestCut(30) + x.bestCutByTrial(30) + x.fewestPieces(30));
        undos(4, "lines and checks", x -> x.writeRow(0) + x.writeCharge(0) + x.lineAt(0) + " " + x.isConsistent());
    }

    private static String outsideOf(StoneQuarry x) {
        return Refusal.positionsOf(x) + ";" + Refusal.lineOf(x) + ";" + Check.outcome(() -> x.type('5'))
            + Check.outcome(x::execute) + x.priceOf(3);
    }

    private static void notPartOfTheState() {
        StoneQuarry untouched = Quarries.typing();
        String due = outsideOf(untouched);
        StoneQuarry undone = Quarries.typing();
        for (int undo = 0; undo < 8; undo++) {
            undone.undo();
        }
        Check.due("behind eight undos", due, () -> outsideOf(undone));
        StoneQuarry saved = Quarries.typing();
        saved.save();
        Check.due("behind save", due, () -> outsideOf(saved));
        StoneQuarry restored = Quarries.typing();
        restored.restore();
        Check.due("behind restore", due, () -> outsideOf(restored));
        StoneQuarry first = Quarries.with(new StoneQuarry(), "pri");
        first.save();
        Quarries.with(first, "ce 3 4");
        first.restore();
        Check.due("the buffer is not that of the snapshot", 1, first::execute);
        Check.fails("the line is not that of the snapshot", INDEX, () -> first.lineAt(0));
        first.writeRow(0);
        first.undo();
        Check.due("the line behind undo", '5', () -> first.lineAt(5));
        Check.fails("the buffer behind undo of its execution", ARGUMENT, first::execute);
    }

    // Exceptions.

    private static void exceptions() {
        test("A method that throws an exception leaves the state unchanged, except that execute empties the text buffer.",
            CommandTerms::refusedCalls);
        test("If several exceptions apply, the one that is documented first is thrown.", CommandTerms::severalExceptions);
    }

    private static void refusedCalls() {
        refused("setHardness", ARGUMENT, x -> x.setHardness(6, 0, 5));
        refused("setHardness", STATE, x -> x.setHardness(0, 0, 5));
        refused("dig", ARGUMENT, x -> x.dig(0, 6));
        refused("dig", STATE, x -> x.dig(5, 5));
        refused("hardnessOf", ARGUMENT, x -> x.hardnessOf(0, 6));
        refused("hardnessOf", STATE, x -> x.hardnessOf(0, 0));
        refused("isOpen", ARGUMENT, x -> x.isOpen(-1, 0));
        refused("veinCount", ARGUMENT, x -> x.veinCount(0));
        refused("veinSize", ARGUMENT, x -> x.veinSize(6, 6));
        refused("veinSize", STATE, x -> x.veinSize(0, 0));
        refused("addCharge", ARGUMENT, x -> x.addCharge(3, 3, 10));
        refused("addCharge", STATE, x -> x.addCharge(5, 5, 9));
        refused("removeCharge", INDEX, x -> x.removeCharge(3));
        refused("ignite", INDEX, x -> x.ignite(3));
        refused("chargeRow", INDEX, x -> x.chargeRow(3));
        refused("chargeColumn", INDEX, x -> x.chargeColumn(3));
        refused("chargeStrength", INDEX, x -> x.chargeStrength(3));
        refused("chainOf", INDEX, x -> x.chainOf(3));
        refused("chainByRounds", INDEX, x -> x.chainByRounds(3));
        refused("opensOf", INDEX, x -> x.opensOf(3));
        refused("setPrice", ARGUMENT, x -> x.setPrice(11, 1));
        refused("priceOf", ARGUMENT, x -> x.priceOf(11));
        refused("bestCut", ARGUMENT, x -> x.bestCut(31));
        refused("bestCutByTrial", ARGUMENT, x -> x.bestCutByTrial(31));
        refused("fewestPieces", ARGUMENT, x -> x.fewestPieces(31));
        refused("sell", ARGUMENT, x -> x.sell(31));
        refused("writeRow", ARGUMENT, x -> x.writeRow(6));
        refused("writeCharge", INDEX, x -> x.writeCharge(3));
        refused("lineAt", INDEX, x -> x.lineAt(6));
        refused("type", ARGUMENT, x -> x.type((char) 127));
        Refusal.due("type", STATE, Quarries::fullBuffer, x -> x.type('1'));
        Refusal.due("dig without coins", TOO_LITTLE, StoneQuarry::new, x -> x.dig(0, 0));
        Refusal.due("sell without stone", TOO_LITTLE, StoneQuarry::new, x -> x.sell(1));
        Refusal.due("bestCharge", NONE, Check::rich, StoneQuarry::bestCharge);
        Refusal.due("meanHardness", ArithmeticException.class, Quarries::allOpen, StoneQuarry::meanHardness);
        Refusal.due("errorPosition", NONE, Check::rich, StoneQuarry::errorPosition);
        Refusal.due("failedCommand", NONE, Check::rich, StoneQuarry::failedCommand);
        Refusal.due("undo", STATE, StoneQuarry::new, StoneQuarry::undo);
        Refusal.due("restore", STATE, Check::rich, StoneQuarry::restore);
        Refusal.ofText("price 1 1;", ARGUMENT, Quarries::busy);
        Refusal.ofText("price 1 1;sell 0", STATE, Quarries::busy);
    }

    private static void refused(String call, Class<? extends RuntimeException> want, Refusal.Act act) {
        Refusal.due(call, want, Quarries::typing, act);
    }

    private static void severalExceptions() {
        refused("setHardness, no such cell and hardness", ARGUMENT, x -> x.setHardness(6, 0, 10));
        refused("setHardness, open cell and no such hardness", ARGUMENT, x -> x.setHardness(0, 0, 10));
        refused("addCharge, open cell and no such strength", ARGUMENT, x -> x.addCharge(0, 0, 0));
        refused("addCharge, a charge in it and no such strength", ARGUMENT, x -> x.addCharge(5, 5, 10));
        Refusal.due("addCharge, six charges and no such cell", ARGUMENT, Quarries::sixCharges, x -> x.addCharge(6, 0, 1));
        Refusal.due("addCharge, six charges and no such strength", ARGUMENT, Quarries::sixCharges,
            x -> x.addCharge(0, 0, 0));
        Refusal.due("dig, no such cell and no coins", ARGUMENT, StoneQuarry::new, x -> x.dig(0, -1));
        Refusal.due("dig, out of reach and no coins", STATE, StoneQuarry::new, x -> x.dig(0, 1));
        Refusal.due("dig, open and no coins", STATE, Quarries::allOpen, x -> x.dig(0, 0));
        Refusal.due("dig, a charge in it and no coins", STATE, Quarries::sixCharges, x -> x.dig(5, 0));
        Refusal.due("sell, no such length and no stone", ARGUMENT, StoneQuarry::new, x -> x.sell(31));
        Refusal.due("sell, no such length and no stone", ARGUMENT, StoneQuarry::new, x -> x.sell(0));
        Refusal.due("type, no such character and a full buffer", ARGUMENT, Quarries::fullBuffer, x -> x.type((char) 31));
        Refusal.due("type, no such character and a full buffer", ARGUMENT, Quarries::fullBuffer, x -> x.type((char) 127));
        Refusal.ofText("sell 0;~", ARGUMENT, Quarries::busy);
        Refusal.ofText("rock 9 9 9;", ARGUMENT, Quarries::busy);
    }
}
