/** Promises 26 to 37: prices, cuts, sales, accounts and shares. */
final class StoneTest {
    private static final Class<IllegalArgumentException> ARGUMENT = IllegalArgumentException.class;

    public static void main(String[] args) {
        prices();
        cuts();
        fewest();
        cutLengths();
        sell();
        accounts();
        meanHardness();
        openShare();
        Check.end();
    }

    private static void prices() {
        StoneQuarry x = new StoneQuarry();
        Check.due("setPrice(1, 99)", 0, () -> x.setPrice(1, 99));
        Check.due("setPrice(1, 0)", 99, () -> x.setPrice(1, 0));
        Check.due("setPrice(1, 7)", 0, () -> x.setPrice(1, 7));
        Check.due("setPrice(10, 42)", 0, () -> x.setPrice(10, 42));
        for (int length : new int[] {0, 11, -1, Integer.MAX_VALUE, Integer.MIN_VALUE}) {
            Check.fails("setPrice(" + length + ", 1)", ARGUMENT, () -> x.setPrice(length, 1));
            Check.fails("priceOf(" + length + ")", ARGUMENT, () -> x.priceOf(length));
        }
        for (int price : new int[] {-1, 100, Integer.MAX_VALUE, Integer.MIN_VALUE}) {
            Check.fails("setPrice(1, " + price + ")", ARGUMENT, () -> x.setPrice(1, price));
        }
        Check.due("priceOf(1)", 7, () -> x.priceOf(1));
        Check.due("priceOf(10)", 42, () -> x.priceOf(10));
        Check.due("priceOf(5)", 0, () -> x.priceOf(5));
        Check.due("just the successful ones are undone", 3, x::undo);
    }

    private static void cut(StoneQuarry x, int length, int coins, int pieces) {
        Check.due("bestCut(" + length + ")", coins, () -> x.bestCut(length));
        Check.due("bestCutByTrial(" + length + ")", coins, () -> x.bestCutByTrial(length));
        Check.due("fewestPieces(" + length + ")", pieces, () -> x.fewestPieces(length));
    }

    private static void cuts() {
        StoneQuarry x = new StoneQuarry();
        x.setPrice(1, 1);
        x.setPrice(2, 5);
        x.setPrice(3, 8);
        x.setPrice(4, 9);
        cut(x, 1, 1, 1);
        cut(x, 2, 5, 1);
        cut(x, 3, 8, 1);
        cut(x, 4, 10, 2);
        cut(x, 5, 13, 2);
        cut(x, 7, 18, 3);
        cut(x, 9, 24, 3);
        cut(x, 10, 26, 4);
        cut(x, 30, 80, 10);
        StoneQuarry only = new StoneQuarry();
        only.setPrice(7, 99);
        cut(only, 6, 0, 1);
        cut(only, 7, 99, 1);
        cut(only, 13, 99, 2);
        cut(only, 20, 198, 3);
        cut(only, 28, 396, 4);
        cut(only, 30, 396, 5);
        StoneQuarry dear = new StoneQuarry();
        dear.setPrice(1, 99);
        cut(dear, 30, 2970, 30);
    }

    private static void fewest() {
        StoneQuarry x = new StoneQuarry();
        cut(x, 1, 0, 1);
        cut(x, 10, 0, 1);
        cut(x, 11, 0, 2);
        cut(x, 20, 0, 2);
        cut(x, 30, 0, 3);
        x.setPrice(1, 2);
        Check.due("fewestPieces(3) of new prices", 3, () -> x.fewestPieces(3));
        Check.due("fewestPieces(3) first", 1, () -> new StoneQuarry().fewestPieces(3));
        StoneQuarry even = new StoneQuarry();
        for (int length = 1; length <= 10; length++) {
            even.setPrice(length, 3 * length);
        }
        cut(even, 10, 30, 1);
        cut(even, 19, 57, 2);
        cut(even, 21, 63, 3);
        even.setPrice(10, 29);
        cut(even, 10, 30, 2);
        cut(even, 30, 90, 4);
        StoneQuarry tied = new StoneQuarry();
        tied.setPrice(1, 1);
        tied.setPrice(3, 4);
        tied.setPrice(4, 6);
        cut(tied, 6, 8, 2);
    }

    private static void cutLengths() {
        StoneQuarry x = new StoneQuarry();
        for (int length : new int[] {0, 31, -1, Integer.MAX_VALUE, Integer.MIN_VALUE}) {
            Check.fails("bestCut(" + length + ")", ARGUMENT, () -> x.bestCut(length));
            Check.fails("bestCutByTrial(" + length + ")", ARGUMENT, () -> x.bestCutByTrial(length));
            Check.fails("fewestPieces(" + length + ")", ARGUMENT, () -> x.fewestPieces(length));
            Check.fails("sell(" + length + ")", ARGUMENT, () -> x.sell(length));
        }
    }

    private static void sell() {
        StoneQuarry x = Check.rich();
        Check.due("coins", 90L, x::coins);
        Check.due("sold", 30, x::sold);
        x.setPrice(5, 4);
        Check.due("sell(15)", 34, () -> x.sell(15));
        Check.due("stone", 30, x::stone);
        Check.due("sold", 45, x::sold);
        Check.due("quarried", 75, x::quarried);
        Check.due("coins", 124L, x::coins);
        Check.due("sell(1) for nothing", 0, () -> x.sell(1));
        Check.fails("sell(30) of 29", UnsupportedOperationException.class, () -> x.sell(30));
        Check.due("sell(29) of 29", 64, () -> x.sell(29));
        Check.due("stone", 0, x::stone);
        Check.fails("sell(1) of nothing", UnsupportedOperationException.class, () -> x.sell(1));
        Check.fails("sell(31) of nothing", ARGUMENT, () -> x.sell(31));
        Check.due("coins", 188L, x::coins);
        Check.due("sold", 75, x::sold);
    }

    private static void accounts() {
        StoneQuarry x = Check.wall("999999", "999999", "999239", "999999", "999999", "999999");
        x.addCharge(2, 3, 4);
        x.ignite(0);
        Check.due("quarried, 2 and 3", 5, x::quarried);
        Check.due("stone", 5, x::stone);
        x.setPrice(4, 10);
        x.sell(4);
        Check.due("stone after a sale", 1, x::stone);
        Check.due("sold", 4, x::sold);
        x.dig(0, 0);
        Check.due("coins after digging", 1L, x::coins);
        Check.due("quarried after digging", 14, x::quarried);
        Check.due("stone after digging", 10, x::stone);
        x.setHardness(5, 5, 1);
        Check.due("setHardness yields nothing", 14, x::quarried);
    }

    private static void meanHardness() {
        StoneQuarry x = new StoneQuarry();
        Check.due("meanHardness", 5.0, x::meanHardness);
        x.setHardness(0, 0, 9);
        Check.due("meanHardness", 184.0 / 36.0, x::meanHardness);
        x.setHardness(0, 1, 1);
        x.addCharge(0, 1, 1);
        x.ignite(0);
        Check.due("meanHardness of 35 cells", 179.0 / 35.0, x::meanHardness);
        StoneQuarry one = Check.wall("......", "......", "....7.", "......", "......", "......");
        Check.due("meanHardness of one cell", 7.0, one::meanHardness);
        one.addCharge(2, 4, 7);
        one.ignite(0);
        Check.fails("meanHardness of none", ArithmeticException.class, one::meanHardness);
        Check.due("openShare of all", 1.0f, one::openShare);
        Check.due("tunnelCost of all", 0, one::tunnelCost);
        Check.due("veinCount of all", 0, () -> one.veinCount(5));
        Check.due("isConsistent of all", true, one::isConsistent);
    }

    private static void openShare() {
        StoneQuarry x = new StoneQuarry();
        Check.due("openShare", 0.0f, x::openShare);
        x.setHardness(0, 0, 1);
        x.addCharge(0, 0, 1);
        x.ignite(0);
        Check.due("openShare of one", 1.0f / 36.0f, x::openShare);
        Check.due("openShare of 15", 15.0f / 36.0f, Check.rich()::openShare);
    }
}
