/** Quarries to start from, each made by few of the 512 calls of an object. */
final class Quarries {
    /** Just outside on each side, and places that a row times six plus a column would wrap into the wall. */
    static final int[][] OUTSIDE = {{-1, 0}, {6, 0}, {0, -1}, {0, 6}, {-1, 6}, {1, -6}, {6, -1}, {0, 35}, {-1, 5},
        {5, 6}, {6, 6}, {-1, -1}, {Integer.MIN_VALUE, 0}, {Integer.MAX_VALUE, 0}, {0, Integer.MIN_VALUE},
        {0, Integer.MAX_VALUE}, {715827883, 0}, {715827883, -2}, {-715827882, 5}};

    /** Sixty characters that the busy quarry can execute. */
    static final String FULL_TEXT = "price 10 99;price 10 98;price 10 97;price 10 96;charge 4 5 2";

    private Quarries() {
    }

    /**
     * Something of everything but texts: 16 open cells, three charges of four, two prices, accounts, more
     * modifications than can be undone, a snapshot of an earlier state, a line.
     */
    static StoneQuarry worked() {
        StoneQuarry x = Check.rich();
        x.addCharge(5, 5, 2);
        x.save();
        x.addCharge(5, 4, 3);
        x.addCharge(2, 4, 6);
        x.addCharge(1, 5, 4);
        x.removeCharge(1);
        x.setHardness(3, 5, 7);
        x.setPrice(1, 2);
        x.dig(5, 0);
        x.sell(1);
        x.setHardness(4, 4, 1);
        x.writeRow(0);
        return x;
    }

    /** The worked quarry, behind a text of which the second command failed, and one with an error at position 5. */
    static StoneQuarry busy() {
        StoneQuarry x = worked();
        Check.outcome(() -> Check.execute(x, "sell 1;sell 0"));
        Check.outcome(() -> Check.execute(x, "rock x"));
        return x;
    }

    /** The busy quarry, with a well-formed text in the buffer. */
    static StoneQuarry typing() {
        return with(busy(), "price 3 4");
    }

    /** The busy quarry, with a well-formed text of 60 characters in the buffer. */
    static StoneQuarry fullBuffer() {
        return with(busy(), FULL_TEXT);
    }

    /** Adds a snapshot that is not the state any more, a line and a text, for a refused call to spoil. */
    static StoneQuarry furnished(StoneQuarry x) {
        x.save();
        x.setPrice(9, 1);
        x.writeRow(0);
        return with(x, "price 3 4");
    }

    static StoneQuarry with(StoneQuarry x, String text) {
        Check.type(x, text);
        return x;
    }

    /** Six charges along the lowest row; none of them opens anything but the first one. */
    static StoneQuarry sixCharges() {
        StoneQuarry x = new StoneQuarry();
        x.addCharge(5, 0, 5);
        for (int column = 1; column < 6; column++) {
            x.addCharge(5, column, column);
        }
        x.setHardness(5, 5, 9);
        return x;
    }

    /** Rock of one hardness only. */
    static StoneQuarry rockOf(int hardness) {
        StoneQuarry x = new StoneQuarry();
        for (int cell = 0; cell < 36; cell++) {
            x.setHardness(cell / 6, cell % 6, hardness);
        }
        return x;
    }

    /** Open cells only: a charge in the middle reaches each corner of the softest rock. */
    static StoneQuarry allOpen() {
        StoneQuarry x = rockOf(1);
        x.addCharge(2, 2, 9);
        x.ignite(0);
        return x;
    }

    /** Rock of this hardness in one cell alone; not in the cell of the charge, row 2 and column 2. */
    static StoneQuarry allOpenBut(int row, int column, int hardness) {
        StoneQuarry x = rockOf(1);
        x.setHardness(row, column, 9);
        x.addCharge(2, 2, 9);
        x.ignite(0);
        x.setHardness(row, column, hardness);
        return x;
    }
}
