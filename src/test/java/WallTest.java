/** Promises 1 to 8: a new object and the wall. */
final class WallTest {
    private static final Class<IllegalArgumentException> ARGUMENT = IllegalArgumentException.class;
    private static final Class<IllegalStateException> STATE = IllegalStateException.class;
    private static final int[][] OUTSIDE = {{-1, 0}, {6, 0}, {0, -1}, {0, 6}, {Integer.MIN_VALUE, 0},
        {0, Integer.MAX_VALUE}, {1, -6}, {-1, 6}, {Integer.MAX_VALUE, Integer.MAX_VALUE}};

    public static void main(String[] args) {
        newObject();
        setHardness();
        dig();
        digRefuses();
        hardnessOf();
        isOpenAndOpenCount();
        veinCount();
        veinSize();
        Check.end();
    }

    private static void newObject() {
        StoneQuarry x = new StoneQuarry();
        for (int r = 0; r < 6; r++) {
            for (int c = 0; c < 6; c++) {
                int row = r;
                int column = c;
                Check.due("new: hardnessOf", 5, () -> x.hardnessOf(row, column));
                Check.due("new: isOpen", false, () -> x.isOpen(row, column));
            }
        }
        for (int n = 1; n <= 10; n++) {
            int length = n;
            Check.due("new: priceOf", 0, () -> x.priceOf(length));
        }
        Check.due("new: chargeCount", 0, x::chargeCount);
        Check.due("new: openCount", 0, x::openCount);
        Check.due("new: coins", 0L, x::coins);
        Check.due("new: stone", 0, x::stone);
        Check.due("new: quarried", 0, x::quarried);
        Check.due("new: sold", 0, x::sold);
        Check.fails("new: undo", STATE, x::undo);
        Check.fails("new: restore", STATE, x::restore);
        Check.due("new: save", 0, x::save);
    }

    private static void setHardness() {
        StoneQuarry x = new StoneQuarry();
        Check.due("setHardness(0, 0, 1)", 5, () -> x.setHardness(0, 0, 1));
        Check.due("setHardness(0, 0, 9)", 1, () -> x.setHardness(0, 0, 9));
        Check.due("setHardness(5, 5, 9)", 5, () -> x.setHardness(5, 5, 9));
        Check.due("setHardness(1, 4, 2)", 5, () -> x.setHardness(1, 4, 2));
        Check.due("hardnessOf(1, 4)", 2, () -> x.hardnessOf(1, 4));
        Check.due("hardnessOf(4, 1)", 5, () -> x.hardnessOf(4, 1));
        for (int[] place : OUTSIDE) {
            Check.fails("setHardness outside", ARGUMENT, () -> x.setHardness(place[0], place[1], 5));
        }
        for (int hardness : new int[] {0, 10, -1, Integer.MIN_VALUE, Integer.MAX_VALUE}) {
            Check.fails("setHardness to " + hardness, ARGUMENT, () -> x.setHardness(0, 0, hardness));
        }
        Check.due("hardnessOf(0, 0) after failures", 9, () -> x.hardnessOf(0, 0));
        x.addCharge(2, 2, 1);
        Check.due("setHardness of a cell with a charge", 5, () -> x.setHardness(2, 2, 1));
        Check.due("the charge is left", 1, x::chargeCount);
        x.ignite(0);
        Check.fails("setHardness of an open cell", STATE, () -> x.setHardness(2, 2, 5));
        Check.fails("setHardness to 0 of an open cell", ARGUMENT, () -> x.setHardness(2, 2, 0));
        Check.due("isOpen(2, 2)", true, () -> x.isOpen(2, 2));
    }

    private static void dig() {
        StoneQuarry x = Check.rich();
        Check.due("dig(5, 0)", 85L, () -> x.dig(5, 0));
        Check.due("isOpen(5, 0)", true, () -> x.isOpen(5, 0));
        Check.due("stone", 50, x::stone);
        Check.due("quarried", 80, x::quarried);
        Check.due("sold", 30, x::sold);
        Check.due("coins", 85L, x::coins);
        x.setHardness(5, 1, 9);
        Check.due("dig(5, 1)", 76L, () -> x.dig(5, 1));
        Check.due("stone after rock of hardness 9", 59, x::stone);
        Check.due("openCount", 17, x::openCount);
        digFromAllSides();
        digWithJustEnoughCoins();
    }

    private static void digFromAllSides() {
        StoneQuarry x = Check.wall("555555", "555555", "555555", "555.55", "555555", "555555");
        x.setPrice(1, 99);
        x.sell(1);
        Check.due("dig(2, 3)", 94L, () -> x.dig(2, 3));
        Check.due("dig(3, 4)", 89L, () -> x.dig(3, 4));
        Check.due("dig(4, 3)", 84L, () -> x.dig(4, 3));
        Check.due("dig(3, 2)", 79L, () -> x.dig(3, 2));
        Check.fails("dig(1, 2), which has an open corner alone", STATE, () -> x.dig(1, 2));
        Check.fails("dig(1, 4), which has an open corner alone", STATE, () -> x.dig(1, 4));
        Check.fails("dig(3, 5) works, dig(2, 5) does not", STATE, () -> x.dig(2, 5));
        Check.due("dig(3, 5)", 74L, () -> x.dig(3, 5));
    }

    private static void digWithJustEnoughCoins() {
        StoneQuarry x = Check.wall("755555", "855555", "555555", "555.55", "555555", "555555");
        x.setPrice(1, 7);
        x.sell(1);
        Check.fails("dig rock of 8 with 7 coins", UnsupportedOperationException.class, () -> x.dig(1, 0));
        Check.due("dig rock of 7 with 7 coins", 0L, () -> x.dig(0, 0));
        Check.fails("dig without coins", UnsupportedOperationException.class, () -> x.dig(3, 2));
        Check.due("openCount", 2, x::openCount);
    }

    private static void digRefuses() {
        StoneQuarry x = Check.rich();
        for (int[] place : OUTSIDE) {
            Check.fails("dig outside", ARGUMENT, () -> x.dig(place[0], place[1]));
        }
        Check.fails("dig an open cell", STATE, () -> x.dig(0, 0));
        Check.fails("dig a cell out of reach", STATE, () -> x.dig(5, 5));
        x.addCharge(5, 0, 2);
        Check.fails("dig a cell with a charge", STATE, () -> x.dig(5, 0));
        x.removeCharge(0);
        Check.due("dig it without the charge", 85L, () -> x.dig(5, 0));
        Check.fails("dig the end of the row above an open cell of column 0", STATE, () -> x.dig(4, 5));
        StoneQuarry poor = new StoneQuarry();
        Check.fails("dig without coins", UnsupportedOperationException.class, () -> poor.dig(3, 0));
        Check.fails("dig out of reach, without coins", STATE, () -> poor.dig(3, 1));
        Check.due("nothing was opened", 0, poor::openCount);
        Check.fails("a failed dig is not undone", STATE, poor::undo);
    }

    private static void hardnessOf() {
        StoneQuarry x = Check.wall("123456", "234567", "345678", "456789", "...987", "999.11");
        Check.due("hardnessOf(0, 0)", 1, () -> x.hardnessOf(0, 0));
        Check.due("hardnessOf(0, 5)", 6, () -> x.hardnessOf(0, 5));
        Check.due("hardnessOf(3, 5)", 9, () -> x.hardnessOf(3, 5));
        Check.due("hardnessOf(5, 2)", 9, () -> x.hardnessOf(5, 2));
        Check.fails("hardnessOf of an open cell", STATE, () -> x.hardnessOf(4, 1));
        for (int[] place : OUTSIDE) {
            Check.fails("hardnessOf outside", ARGUMENT, () -> x.hardnessOf(place[0], place[1]));
        }
    }

    private static void isOpenAndOpenCount() {
        StoneQuarry x = Check.wall(".23456", "23456.", "345678", "456789", "...987", "999.11");
        Check.due("isOpen(0, 0)", true, () -> x.isOpen(0, 0));
        Check.due("isOpen(1, 5)", true, () -> x.isOpen(1, 5));
        Check.due("isOpen(5, 1)", false, () -> x.isOpen(5, 1));
        Check.due("openCount", 6, x::openCount);
        for (int[] place : OUTSIDE) {
            Check.fails("isOpen outside", ARGUMENT, () -> x.isOpen(place[0], place[1]));
        }
        StoneQuarry all = Check.wall("......", "......", "......", "......", "......", "......");
        Check.due("openCount of an open wall", 36, all::openCount);
    }

    private static void veinCount() {
        StoneQuarry x = Check.wall("115222", "151555", "111.25", "22255.", "2.2533", "222533");
        Check.due("veinCount(1)", 1, () -> x.veinCount(1));
        Check.due("veinCount(5): corners and row ends do not connect", 4, () -> x.veinCount(5));
        Check.due("veinCount(2)", 3, () -> x.veinCount(2));
        Check.due("veinCount(2) again", 3, () -> x.veinCount(2));
        x.veinSize(0, 0);
        Check.due("veinCount(1) after veinSize", 1, () -> x.veinCount(1));
        Check.due("veinCount(3)", 1, () -> x.veinCount(3));
        Check.due("veinCount(9)", 0, () -> x.veinCount(9));
        for (int hardness : new int[] {0, 10, -5, Integer.MAX_VALUE, Integer.MIN_VALUE}) {
            Check.fails("veinCount(" + hardness + ")", ARGUMENT, () -> x.veinCount(hardness));
        }
        StoneQuarry board = Check.wall("191919", "919191", "191919", "919191", "191919", "919191");
        Check.due("veinCount(1) of a board", 18, () -> board.veinCount(1));
        Check.due("veinCount(9) of a board", 18, () -> board.veinCount(9));
    }

    private static void veinSize() {
        StoneQuarry x = Check.wall("115222", "151555", "111.25", "22255.", "2.2533", "222533");
        Check.due("veinSize(0, 0)", 7, () -> x.veinSize(0, 0));
        Check.due("veinSize(2, 1)", 7, () -> x.veinSize(2, 1));
        Check.due("veinSize(1, 1)", 1, () -> x.veinSize(1, 1));
        Check.due("veinSize(4, 2), a ring", 8, () -> x.veinSize(4, 2));
        Check.due("veinSize(2, 4)", 1, () -> x.veinSize(2, 4));
        Check.due("veinSize(2, 5)", 4, () -> x.veinSize(2, 5));
        Check.due("veinSize(5, 3)", 4, () -> x.veinSize(5, 3));
        Check.fails("veinSize of an open cell", STATE, () -> x.veinSize(4, 1));
        for (int[] place : OUTSIDE) {
            Check.fails("veinSize outside", ARGUMENT, () -> x.veinSize(place[0], place[1]));
        }
        StoneQuarry snake = Check.wall("111111", "222221", "111111", "122222", "111111", "222221");
        Check.due("veinSize of a snake", 21, () -> snake.veinSize(0, 0));
    }
}
