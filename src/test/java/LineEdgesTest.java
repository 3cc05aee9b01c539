/** Promises 38 to 41 at their edges: each test names the sentence that it tests. */
final class LineEdgesTest {
    private static final Class<IndexOutOfBoundsException> INDEX = IndexOutOfBoundsException.class;

    public static void main(String[] args) {
        run();
        Sentence.allNamed(38, 41);
        Check.end();
    }

    static void run() {
        writeRow();
        writeCharge();
        lineAt();
        Sentence.test(41, "Returns whether the quarry is consistent: chainOf and chainByRounds agree for all charges; tunnelCost and tunnelByRounds, mostSlabs and slabsByCells, and largestBlock and blockByHeights agree; bestCut and bestCutByTrial agree for the lengths from 1 to 12; and the stone in stock is what was quarried minus what was sold.",
            LineEdgesTest::consistentAtTheEnds);
    }

    private static void line(String want, int length, StoneQuarry x) {
        Check.due("the length of " + want, want.length(), () -> length);
        Check.due("the line", want, () -> Check.lineOf(x, length));
        Check.fails("behind " + want, INDEX, () -> x.lineAt(length));
    }

    // Promise 38.

    private static void writeRow() {
        Sentence.test(38, "- `row`: the row, 0 to 5", () -> {
            StoneQuarry x = Check.wall("123456", "555555", "555555", "555555", "555555", "987654");
            line("123456", x.writeRow(0), x);
            line("987654", x.writeRow(5), x);
        });
        Sentence.test(38, "Writes a row into the line, which replaces the previous line: for each cell \"*\" if there is a charge in it, or otherwise its hardness, or \".\" if it is open; for example \"55*.19\".",
            LineEdgesTest::rowsAtTheEnds);
        Sentence.test(38, "Returns the length of the line.", () -> {
            Check.due("of a row of rock", 6, () -> new StoneQuarry().writeRow(0));
            Check.due("of an open row", 6, () -> Quarries.allOpen().writeRow(5));
            Check.due("of a row of charges", 6, () -> Quarries.sixCharges().writeRow(5));
        });
        Sentence.test(38, "Throws `IllegalArgumentException` if there is no such row", () -> {
            for (int row : new int[] {-1, 6, 256, Integer.MIN_VALUE, Integer.MAX_VALUE}) {
                Refusal.due("writeRow(" + row + ")", IllegalArgumentException.class, Quarries::typing,
                    x -> x.writeRow(row));
            }
            Refusal.due("writeRow(6) at first", IllegalArgumentException.class, StoneQuarry::new, x -> x.writeRow(6));
        });
    }

    private static void rowsAtTheEnds() {
        StoneQuarry example = Check.wall("555555", "555555", "555555", "555.19", "555555", "555555");
        example.addCharge(3, 2, 9);
        line("55*.19", example.writeRow(3), example);
        StoneQuarry charges = Quarries.sixCharges();
        line("0@5,0:5", charges.writeCharge(0), charges);
        line("******", charges.writeRow(5), charges);
        line("555555", charges.writeRow(0), charges);
        StoneQuarry open = Quarries.allOpen();
        line("......", open.writeRow(0), open);
        StoneQuarry one = Quarries.allOpenBut(5, 5, 1);
        line(".....1", one.writeRow(5), one);
        one.addCharge(5, 5, 1);
        line(".....*", one.writeRow(5), one);
        one.ignite(0);
        line("......", one.writeRow(5), one);
    }

    // Promise 39.

    private static void writeCharge() {
        Sentence.test(39, "- `charge`: number of the charge", () -> {
            StoneQuarry x = Quarries.sixCharges();
            line("0@5,0:5", x.writeCharge(0), x);
            line("5@5,5:5", x.writeCharge(5), x);
        });
        Sentence.test(39, "Writes a charge into the line, which replaces the previous line: its number, \"@\", its row, \",\", its column, \":\" and its strength; for example \"2@3,4:7\".",
            LineEdgesTest::chargesAtTheEnds);
        Sentence.test(39, "Returns the length of the line.", () -> {
            StoneQuarry x = Quarries.sixCharges();
            Check.due("behind nothing", 7, () -> x.writeCharge(0));
            x.writeRow(0);
            Check.due("behind a row", 7, () -> x.writeCharge(5));
            Check.due("behind a charge", 7, () -> x.writeCharge(5));
        });
        Sentence.test(39, "Throws `IndexOutOfBoundsException` if there is no such charge", () -> {
            for (int charge : new int[] {-1, 3, 4, 6, 256, Integer.MIN_VALUE, Integer.MAX_VALUE}) {
                Refusal.due("writeCharge(" + charge + ") of three", INDEX, Quarries::typing, x -> x.writeCharge(charge));
            }
            Refusal.due("writeCharge(0) of none", INDEX, StoneQuarry::new, x -> x.writeCharge(0));
            Refusal.due("writeCharge(6) of six", INDEX, Quarries::sixCharges, x -> x.writeCharge(6));
        });
    }

    private static void chargesAtTheEnds() {
        StoneQuarry x = new StoneQuarry();
        x.addCharge(0, 0, 1);
        x.addCharge(5, 5, 9);
        x.addCharge(3, 4, 7);
        line("0@0,0:1", x.writeCharge(0), x);
        line("1@5,5:9", x.writeCharge(1), x);
        line("2@3,4:7", x.writeCharge(2), x);
        x.removeCharge(0);
        line("1@3,4:7", x.writeCharge(1), x);
    }

    // Promise 40.

    private static void lineAt() {
        Sentence.test(40, "- `index`: index of the character, from 0", () -> {
            StoneQuarry x = Quarries.sixCharges();
            x.writeCharge(0);
            Check.due("the first character of a charge", '0', () -> x.lineAt(0));
            Check.due("the last character of a charge", '5', () -> x.lineAt(6));
            x.setHardness(0, 0, 1);
            x.setHardness(0, 5, 9);
            x.writeRow(0);
            Check.due("the first character of a row", '1', () -> x.lineAt(0));
            Check.due("the last character of a row", '9', () -> x.lineAt(5));
        });
        Sentence.test(40, "Returns a character of the line, which is empty at first.", () -> {
            StoneQuarry x = new StoneQuarry();
            Check.fails("lineAt(0) at first", INDEX, () -> x.lineAt(0));
            Check.outcome(() -> x.writeRow(6));
            Check.outcome(() -> x.writeCharge(0));
            Check.fails("lineAt(0) behind refused lines", INDEX, () -> x.lineAt(0));
            x.writeRow(0);
            Check.due("lineAt(0)", '5', () -> x.lineAt(0));
        });
        Sentence.test(40, "Throws `IndexOutOfBoundsException` if there is no such character", LineEdgesTest::noCharacter);
    }

    private static void noCharacter() {
        for (int index : new int[] {-1, 6, 7, 256, Integer.MIN_VALUE, Integer.MAX_VALUE}) {
            Refusal.due("lineAt(" + index + ") of a row", INDEX, Quarries::typing, x -> x.lineAt(index));
            Refusal.due("lineAt(" + index + ") of a row behind a charge", INDEX, LineEdgesTest::rowBehindCharge,
                x -> x.lineAt(index));
        }
        for (int index : new int[] {-1, 7, 8, Integer.MIN_VALUE, Integer.MAX_VALUE}) {
            Refusal.due("lineAt(" + index + ") of a charge", INDEX, LineEdgesTest::chargeBehindRow, x -> x.lineAt(index));
        }
        for (int index : new int[] {-1, 0, 1}) {
            Refusal.due("lineAt(" + index + ") at first", INDEX, StoneQuarry::new, x -> x.lineAt(index));
        }
    }

    private static StoneQuarry rowBehindCharge() {
        StoneQuarry x = Quarries.sixCharges();
        x.writeCharge(5);
        x.writeRow(5);
        return x;
    }

    private static StoneQuarry chargeBehindRow() {
        StoneQuarry x = Quarries.sixCharges();
        x.writeRow(5);
        x.writeCharge(5);
        return x;
    }

    // Promise 41.

    private static void consistentAtTheEnds() {
        Check.due("of a new quarry", true, new StoneQuarry()::isConsistent);
        Check.due("of six charges", true, Quarries.sixCharges()::isConsistent);
        Check.due("of open cells only", true, Quarries.allOpen()::isConsistent);
        Check.due("of one cell of rock", true, Quarries.allOpenBut(5, 5, 9)::isConsistent);
        StoneQuarry x = Quarries.busy();
        for (int length = 1; length <= 10; length++) {
            x.setPrice(length, 99 - 9 * length);
        }
        String before = Check.stateOf(x);
        Check.due("of the dearest prices", true, x::isConsistent);
        Check.due("the state", before, () -> Check.stateOf(x));
        x.sell(30);
        x.sell(19);
        Check.due("without stock", true, x::isConsistent);
        Check.due("undo", 7, x::undo);
        Check.due("with stock again", true, x::isConsistent);
        x.restore();
        Check.due("behind restore", true, x::isConsistent);
    }
}
