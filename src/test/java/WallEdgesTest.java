/** Promises 1 to 8 at their edges: each test names the sentence that it tests. */
final class WallEdgesTest {
    private static final Class<IllegalArgumentException> ARGUMENT = IllegalArgumentException.class;
    private static final Class<IllegalStateException> STATE = IllegalStateException.class;
    private static final Class<UnsupportedOperationException> TOO_LITTLE = UnsupportedOperationException.class;
    private static final String ROW = "- `row`: the row, 0 to 5";
    private static final String COLUMN = "- `column`: the column, 0 to 5";
    private static final String NO_CELL = "Throws `IllegalArgumentException` if there is no such cell";
    private static final String CELL_OPEN = "Throws `IllegalStateException` if the cell is open";

    public static void main(String[] args) {
        run();
        Sentence.allNamed(1, 8);
        Check.end();
    }

    static void run() {
        Sentence.test(1, "Creates a quarry with rock of hardness 5 only, without charges and coins, and with all prices 0.",
            WallEdgesTest::newQuarry);
        setHardness();
        dig();
        hardnessOf();
        isOpen();
        counts();
        veinSize();
    }

    private static void newQuarry() {
        StoneQuarry x = new StoneQuarry();
        String row = "555555";
        Check.due("state", String.join(" ", row, row, row, row, row, row) + ";;0 0 0 0 0 0 0 0 0 0 ;0 0 0 0",
            () -> Check.stateOf(x));
        Check.fails("undo", STATE, x::undo);
        Check.fails("restore", STATE, x::restore);
        Check.fails("lineAt(0)", IndexOutOfBoundsException.class, () -> x.lineAt(0));
        Check.due("type", 1, () -> x.type('1'));
    }

    // Promise 2.

    private static void setHardness() {
        Sentence.test(2, ROW, WallEdgesTest::hardnessInEndRows);
        Sentence.test(2, COLUMN, WallEdgesTest::hardnessInEndColumns);
        Sentence.test(2, "- `hardness`: the new hardness, 1 to 9", WallEdgesTest::endsOfHardness);
        Sentence.test(2, "Returns the previous hardness.", WallEdgesTest::previousHardness);
        Sentence.test(2, "Throws `IllegalArgumentException` if there is no such cell, or the hardness is out of range",
            WallEdgesTest::hardnessRefused);
        Sentence.test(2, CELL_OPEN, WallEdgesTest::hardnessOfOpenRefused);
    }

    private static void hardnessInEndRows() {
        StoneQuarry x = new StoneQuarry();
        Check.due("setHardness(0, 2, 1)", 5, () -> x.setHardness(0, 2, 1));
        Check.due("setHardness(5, 2, 2)", 5, () -> x.setHardness(5, 2, 2));
        Check.due("wall", "551555 555555 555555 555555 555555 552555", () -> Check.wallOf(x));
    }

    private static void hardnessInEndColumns() {
        StoneQuarry x = new StoneQuarry();
        Check.due("setHardness(2, 0, 1)", 5, () -> x.setHardness(2, 0, 1));
        Check.due("setHardness(2, 5, 2)", 5, () -> x.setHardness(2, 5, 2));
        Check.due("wall", "555555 555555 155552 555555 555555 555555", () -> Check.wallOf(x));
    }

    private static void endsOfHardness() {
        StoneQuarry x = new StoneQuarry();
        x.setHardness(1, 1, 1);
        Check.due("the least hardness", 1, () -> x.hardnessOf(1, 1));
        x.setHardness(1, 1, 9);
        Check.due("the greatest hardness", 9, () -> x.hardnessOf(1, 1));
        Check.due("isOpen", false, () -> x.isOpen(1, 1));
    }

    private static void previousHardness() {
        StoneQuarry x = new StoneQuarry();
        Check.due("of new rock", 5, () -> x.setHardness(3, 3, 1));
        Check.due("of the softest rock", 1, () -> x.setHardness(3, 3, 9));
        Check.due("of the hardest rock", 9, () -> x.setHardness(3, 3, 9));
        Check.due("of the same hardness", 9, () -> x.setHardness(3, 3, 5));
    }

    private static void hardnessRefused() {
        for (int[] place : Quarries.OUTSIDE) {
            Refusal.due("setHardness(" + place[0] + ", " + place[1] + ", 5)", ARGUMENT, Quarries::typing,
                x -> x.setHardness(place[0], place[1], 5));
        }
        for (int hardness : new int[] {0, 10, -1, 255 + 6, Integer.MIN_VALUE, Integer.MAX_VALUE}) {
            Refusal.due("setHardness(5, 1, " + hardness + ")", ARGUMENT, Quarries::typing,
                x -> x.setHardness(5, 1, hardness));
        }
        Refusal.due("setHardness(6, 0, 0)", ARGUMENT, StoneQuarry::new, x -> x.setHardness(6, 0, 0));
    }

    private static void hardnessOfOpenRefused() {
        Refusal.due("setHardness(0, 0, 1)", STATE, Quarries::typing, x -> x.setHardness(0, 0, 1));
        Refusal.due("setHardness(0, 0, 9)", STATE, Quarries::typing, x -> x.setHardness(0, 0, 9));
        Refusal.due("setHardness(5, 0, 5), dug", STATE, Quarries::typing, x -> x.setHardness(5, 0, 5));
        Check.due("setHardness next to it", 5, () -> Quarries.busy().setHardness(5, 1, 1));
    }

    // Promise 3.

    private static void dig() {
        Sentence.test(3, "Digs a rock cell that is in column 0 or has an open neighbour: it becomes open, and the work costs as many coins as its hardness.",
            WallEdgesTest::digSoftestAndHardest);
        Sentence.test(3, ROW, WallEdgesTest::digInEndRows);
        Sentence.test(3, COLUMN, WallEdgesTest::digInEndColumns);
        Sentence.test(3, "Returns the coins that are left.", WallEdgesTest::digLeavesNoCoins);
        Sentence.test(3, NO_CELL, WallEdgesTest::digOutsideRefused);
        Sentence.test(3, "Throws `IllegalStateException` if the cell is open, contains a charge, or is neither in column 0 nor has an open neighbour",
            WallEdgesTest::digThereRefused);
        Sentence.test(3, "Throws `UnsupportedOperationException` if there are fewer coins than its hardness",
            WallEdgesTest::digWithoutCoinsRefused);
    }

    private static void digSoftestAndHardest() {
        StoneQuarry x = Check.rich();
        x.setHardness(5, 0, 1);
        x.setHardness(5, 1, 9);
        Check.due("dig the softest rock", 89L, () -> x.dig(5, 0));
        Check.due("dig the hardest rock", 80L, () -> x.dig(5, 1));
        Check.due("accounts", "55 85 30 80", () -> Check.accountsOf(x));
        Check.due("wall", ".....5 ....55 ...555 ..5555 .55555 ..5555", () -> Check.wallOf(x));
        StoneQuarry alone = withCoins(10);
        Check.due("dig in column 0 without open neighbours", 5L, () -> alone.dig(0, 0));
        Check.due("dig beside it", 0L, () -> alone.dig(0, 1));
        Check.due("wall", "..5555 555555 55.955 555555 555555 555555", () -> Check.wallOf(alone));
    }

    private static void digInEndRows() {
        StoneQuarry x = Check.rich();
        Check.due("dig(5, 0)", 85L, () -> x.dig(5, 0));
        Check.due("dig(0, 5)", 80L, () -> x.dig(0, 5));
        Check.due("wall", "...... ....55 ...555 ..5555 .55555 .55555", () -> Check.wallOf(x));
    }

    private static void digInEndColumns() {
        StoneQuarry x = Check.wall("555555", "555555", "555555", "55555.", "555555", "555555");
        x.setPrice(1, 15);
        x.sell(1);
        Check.due("dig(0, 0), without open neighbours", 10L, () -> x.dig(0, 0));
        Check.due("dig(2, 5), below the row's end", 5L, () -> x.dig(2, 5));
        Check.due("dig(4, 5)", 0L, () -> x.dig(4, 5));
        Check.due("wall", ".55555 555555 55555. 55555. 55555. 555555", () -> Check.wallOf(x));
    }

    /** One bar of one tonne, sold for this price: the only coins. */
    private static StoneQuarry withCoins(int price) {
        StoneQuarry x = Check.wall("555555", "555555", "55.955", "555555", "555555", "555555");
        x.setPrice(1, price);
        x.sell(1);
        x.addCharge(5, 5, 1);
        return x;
    }

    private static void digLeavesNoCoins() {
        Check.due("dig rock of 9 with 9 coins", 0L, () -> withCoins(9).dig(2, 3));
        Check.due("dig rock of 9 with 10 coins", 1L, () -> withCoins(10).dig(2, 3));
        StoneQuarry x = withCoins(9);
        x.dig(2, 3);
        Check.due("accounts", "9 10 1 0", () -> Check.accountsOf(x));
    }

    private static void digOutsideRefused() {
        for (int[] place : Quarries.OUTSIDE) {
            Refusal.due("dig(" + place[0] + ", " + place[1] + ")", ARGUMENT, Quarries::typing,
                x -> x.dig(place[0], place[1]));
        }
    }

    private static void digThereRefused() {
        Refusal.due("dig an open cell of column 0", STATE, Quarries::typing, x -> x.dig(0, 0));
        Refusal.due("dig an open cell", STATE, Quarries::typing, x -> x.dig(0, 1));
        Refusal.due("dig a charge with an open neighbour", STATE, WallEdgesTest::chargeBesideOpen, x -> x.dig(2, 3));
        Refusal.due("dig a charge in column 0", STATE, WallEdgesTest::chargeInColumn0, x -> x.dig(3, 0));
        Refusal.due("dig behind closed rock", STATE, Quarries::typing, x -> x.dig(5, 2));
        Refusal.due("dig with open corners alone", STATE, () -> withCoins(99), x -> x.dig(1, 1));
        Refusal.due("dig at the end of a row whose next one begins open", STATE, Quarries::busy, x -> x.dig(4, 5));
        StoneQuarry wrapped = Check.wall("555555", "55555.", "555555", "555555", "555555", "555555");
        wrapped.setPrice(1, 99);
        wrapped.sell(1);
        Check.fails("dig above the row's end that is open", STATE, () -> wrapped.dig(3, 5));
        Check.fails("dig in column 1 behind it", STATE, () -> wrapped.dig(2, 1));
        Check.due("dig at its left", 94L, () -> wrapped.dig(1, 4));
    }

    private static StoneQuarry chargeBesideOpen() {
        StoneQuarry x = Quarries.busy();
        x.addCharge(2, 3, 1);
        return x;
    }

    private static StoneQuarry chargeInColumn0() {
        StoneQuarry x = withCoins(99);
        x.addCharge(3, 0, 1);
        return x;
    }

    private static void digWithoutCoinsRefused() {
        Refusal.due("dig rock of 9 with 8 coins", TOO_LITTLE, () -> Quarries.furnished(withCoins(8)), x -> x.dig(2, 3));
        Refusal.due("dig rock of 5 with 4 coins", TOO_LITTLE, () -> Quarries.furnished(withCoins(4)), x -> x.dig(5, 0));
        Refusal.due("dig new rock", TOO_LITTLE, StoneQuarry::new, x -> x.dig(0, 0));
        Refusal.due("dig the softest rock without coins", TOO_LITTLE, () -> Quarries.rockOf(1), x -> x.dig(5, 0));
        Check.due("dig rock of 5 with 5 coins", 0L, () -> withCoins(5).dig(5, 0));
    }

    // Promises 4 and 5.

    private static StoneQuarry numbered() {
        return Check.wall("123456", "234567", "345678", "456789", "..7987", "991.19");
    }

    private static void hardnessOf() {
        Sentence.test(4, ROW, () -> {
            StoneQuarry x = numbered();
            Check.due("hardnessOf(0, 2)", 3, () -> x.hardnessOf(0, 2));
            Check.due("hardnessOf(5, 2)", 1, () -> x.hardnessOf(5, 2));
        });
        Sentence.test(4, COLUMN, () -> {
            StoneQuarry x = numbered();
            Check.due("hardnessOf(1, 0)", 2, () -> x.hardnessOf(1, 0));
            Check.due("hardnessOf(1, 5)", 7, () -> x.hardnessOf(1, 5));
        });
        Sentence.test(4, "Returns the hardness.", () -> {
            StoneQuarry x = numbered();
            Check.due("the softest", 1, () -> x.hardnessOf(0, 0));
            Check.due("the hardest", 9, () -> x.hardnessOf(5, 5));
        });
        Sentence.test(4, NO_CELL, () -> {
            for (int[] place : Quarries.OUTSIDE) {
                Refusal.due("hardnessOf(" + place[0] + ", " + place[1] + ")", ARGUMENT, Quarries::typing,
                    x -> x.hardnessOf(place[0], place[1]));
            }
        });
        Sentence.test(4, CELL_OPEN, () -> {
            Refusal.due("hardnessOf(0, 0)", STATE, Quarries::typing, x -> x.hardnessOf(0, 0));
            Refusal.due("hardnessOf(5, 0), dug", STATE, Quarries::typing, x -> x.hardnessOf(5, 0));
            Refusal.due("hardnessOf(5, 5)", STATE, Quarries::allOpen, x -> x.hardnessOf(5, 5));
        });
    }

    private static void isOpen() {
        Sentence.test(5, ROW, () -> {
            StoneQuarry x = Check.wall("55.555", "555555", "......", "......", "555555", "555.55");
            Check.due("isOpen(0, 2)", true, () -> x.isOpen(0, 2));
            Check.due("isOpen(0, 3)", false, () -> x.isOpen(0, 3));
            Check.due("isOpen(5, 3)", true, () -> x.isOpen(5, 3));
            Check.due("isOpen(5, 2)", false, () -> x.isOpen(5, 2));
        });
        Sentence.test(5, COLUMN, () -> {
            StoneQuarry x = Check.wall("555555", ".5555.", "5....5", "555555", "555555", "555555");
            Check.due("isOpen(1, 0)", true, () -> x.isOpen(1, 0));
            Check.due("isOpen(2, 0)", false, () -> x.isOpen(2, 0));
            Check.due("isOpen(1, 5)", true, () -> x.isOpen(1, 5));
            Check.due("isOpen(2, 5)", false, () -> x.isOpen(2, 5));
        });
        Sentence.test(5, NO_CELL, () -> {
            for (int[] place : Quarries.OUTSIDE) {
                Refusal.due("isOpen(" + place[0] + ", " + place[1] + ")", ARGUMENT, Quarries::typing,
                    x -> x.isOpen(place[0], place[1]));
            }
        });
    }

    // Promises 6 and 7.

    private static void counts() {
        Sentence.test(6, "Returns the number of open cells.", () -> {
            Check.due("of none", 0, new StoneQuarry()::openCount);
            Check.due("of all", 36, Quarries.allOpen()::openCount);
            Check.due("of all but the first", 35, Quarries.allOpenBut(0, 0, 5)::openCount);
            Check.due("of all but the last", 35, Quarries.allOpenBut(5, 5, 5)::openCount);
        });
        Sentence.test(7, "Returns the number of veins with a hardness.", () -> {
            Check.due("one of all cells", 1, () -> new StoneQuarry().veinCount(5));
            Check.due("none in open cells", 0, () -> Quarries.allOpen().veinCount(1));
            Check.due("one in the last cell", 1, () -> Quarries.allOpenBut(5, 5, 3).veinCount(3));
            StoneQuarry board = Check.wall("191919", "919191", "191919", "919191", "191919", "919191");
            Check.due("as many as there can be", 18, () -> board.veinCount(9));
        });
        Sentence.test(7, "- `hardness`: the hardness, 1 to 9", () -> {
            StoneQuarry x = numbered();
            Check.due("veinCount(1)", 3, () -> x.veinCount(1));
            Check.due("veinCount(9)", 4, () -> x.veinCount(9));
        });
        Sentence.test(7, "Throws `IllegalArgumentException` if the hardness is out of range", () -> {
            for (int hardness : new int[] {0, 10, -1, 256 + 5, Integer.MIN_VALUE, Integer.MAX_VALUE}) {
                Refusal.due("veinCount(" + hardness + ")", ARGUMENT, Quarries::typing, x -> x.veinCount(hardness));
            }
        });
    }

    // Promise 8.

    private static void veinSize() {
        Sentence.test(8, ROW, () -> {
            StoneQuarry x = Check.wall("511555", "555555", "555555", "555555", "555555", "555222");
            Check.due("veinSize(0, 2)", 2, () -> x.veinSize(0, 2));
            Check.due("veinSize(5, 3)", 3, () -> x.veinSize(5, 3));
        });
        Sentence.test(8, COLUMN, () -> {
            StoneQuarry x = Check.wall("555555", "155555", "155552", "555552", "555552", "555555");
            Check.due("veinSize(2, 0)", 2, () -> x.veinSize(2, 0));
            Check.due("veinSize(2, 5)", 3, () -> x.veinSize(2, 5));
        });
        Sentence.test(8, "Returns the number of cells of the vein to which a rock cell belongs.", () -> {
            Check.due("of a single cell", 1, () -> Quarries.allOpenBut(3, 3, 5).veinSize(3, 3));
            Check.due("of a single cell among others", 1, () -> numbered().veinSize(0, 0));
            Check.due("of all cells", 36, () -> new StoneQuarry().veinSize(5, 5));
        });
        Sentence.test(8, NO_CELL, () -> {
            for (int[] place : Quarries.OUTSIDE) {
                Refusal.due("veinSize(" + place[0] + ", " + place[1] + ")", ARGUMENT, Quarries::typing,
                    x -> x.veinSize(place[0], place[1]));
            }
        });
        Sentence.test(8, CELL_OPEN, () -> {
            Refusal.due("veinSize(0, 0)", STATE, Quarries::typing, x -> x.veinSize(0, 0));
            Refusal.due("veinSize(5, 5)", STATE, Quarries::allOpen, x -> x.veinSize(5, 5));
        });
    }
}
