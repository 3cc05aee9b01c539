/** Promises 26 to 37 at their edges: each test names the sentence that it tests. */
final class StoneEdgesTest {
    private static final Class<IllegalArgumentException> ARGUMENT = IllegalArgumentException.class;
    private static final Class<UnsupportedOperationException> TOO_LITTLE = UnsupportedOperationException.class;
    private static final int[] NO_PIECE = {0, 11, -1, 256 + 1, Integer.MIN_VALUE, Integer.MAX_VALUE};
    private static final int[] NO_BAR = {0, 31, -1, 256 + 1, Integer.MIN_VALUE, Integer.MAX_VALUE};
    private static final String BAR = "- `length`: the length of the bar, 1 to 30";
    private static final String PIECE = "- `length`: the length of a piece, 1 to 10";
    private static final String NO_SUCH_LENGTH = "Throws `IllegalArgumentException` if the length is out of range";

    public static void main(String[] args) {
        run();
        Sentence.allNamed(26, 37);
        Check.end();
    }

    static void run() {
        setPrice();
        priceOf();
        bars();
        cuts();
        sell();
        accounts();
        meanHardness();
        openShare();
    }

    private interface OfLength {
        int of(StoneQuarry x, int length);
    }

    // Promises 26 and 27.

    private static void setPrice() {
        Sentence.test(26, PIECE, () -> {
            StoneQuarry x = new StoneQuarry();
            Check.due("setPrice(1, 7)", 0, () -> x.setPrice(1, 7));
            Check.due("setPrice(10, 8)", 0, () -> x.setPrice(10, 8));
            Check.due("priceOf(1)", 7, () -> x.priceOf(1));
            Check.due("priceOf(2)", 0, () -> x.priceOf(2));
            Check.due("priceOf(9)", 0, () -> x.priceOf(9));
            Check.due("priceOf(10)", 8, () -> x.priceOf(10));
        });
        Sentence.test(26, "- `price`: the new price, 0 to 99", () -> {
            StoneQuarry x = new StoneQuarry();
            x.setPrice(4, 99);
            Check.due("the highest price", 99, () -> x.priceOf(4));
            x.setPrice(4, 0);
            Check.due("the lowest price", 0, () -> x.priceOf(4));
        });
        Sentence.test(26, "Returns the previous price.", () -> {
            StoneQuarry x = new StoneQuarry();
            Check.due("at first", 0, () -> x.setPrice(4, 99));
            Check.due("the highest", 99, () -> x.setPrice(4, 99));
            Check.due("the same one", 99, () -> x.setPrice(4, 0));
            Check.due("the lowest", 0, () -> x.setPrice(4, 1));
        });
        Sentence.test(26, "Throws `IllegalArgumentException` if a number is out of range", () -> {
            for (int length : NO_PIECE) {
                Refusal.due("setPrice(" + length + ", 1)", ARGUMENT, Quarries::typing, x -> x.setPrice(length, 1));
            }
            for (int price : new int[] {-1, 100, 256 + 1, Integer.MIN_VALUE, Integer.MAX_VALUE}) {
                Refusal.due("setPrice(1, " + price + ")", ARGUMENT, Quarries::typing, x -> x.setPrice(1, price));
            }
        });
    }

    private static void priceOf() {
        Sentence.test(27, PIECE, () -> {
            StoneQuarry x = new StoneQuarry();
            x.setPrice(1, 99);
            x.setPrice(10, 1);
            Check.due("priceOf(1)", 99, () -> x.priceOf(1));
            Check.due("priceOf(10)", 1, () -> x.priceOf(10));
        });
        Sentence.test(27, NO_SUCH_LENGTH, () -> {
            for (int length : NO_PIECE) {
                Refusal.due("priceOf(" + length + ")", ARGUMENT, Quarries::typing, x -> x.priceOf(length));
            }
        });
    }

    // Promises 28 to 30.

    /** Prices by which a piece brings more the longer it is, but for the shortest one. */
    private static StoneQuarry priced() {
        StoneQuarry x = new StoneQuarry();
        for (int length = 2; length <= 10; length++) {
            x.setPrice(length, 2 * length);
        }
        x.setPrice(1, 1);
        return x;
    }

    private static void bars() {
        Sentence.test(28, BAR, () -> barEnds("bestCut", StoneQuarry::bestCut, 1, 60));
        Sentence.test(29, BAR, () -> barEnds("bestCutByTrial", StoneQuarry::bestCutByTrial, 1, 60));
        Sentence.test(30, BAR, () -> barEnds("fewestPieces", StoneQuarry::fewestPieces, 1, 3));
        Sentence.test(28, NO_SUCH_LENGTH, () -> noSuchBar("bestCut", StoneQuarry::bestCut));
        Sentence.test(29, NO_SUCH_LENGTH, () -> noSuchBar("bestCutByTrial", StoneQuarry::bestCutByTrial));
        Sentence.test(30, NO_SUCH_LENGTH, () -> noSuchBar("fewestPieces", StoneQuarry::fewestPieces));
    }

    private static void barEnds(String call, OfLength act, int ofShortest, int ofLongest) {
        Check.due(call + "(1)", ofShortest, () -> act.of(priced(), 1));
        Check.due(call + "(30)", ofLongest, () -> act.of(priced(), 30));
    }

    private static void noSuchBar(String call, OfLength act) {
        for (int length : NO_BAR) {
            Refusal.due(call + "(" + length + ")", ARGUMENT, Quarries::typing, x -> act.of(x, length));
        }
    }

    private static void cuts() {
        Sentence.test(28, "Returns how many coins a best cut of a bar brings, with a table of all shorter bars.",
            () -> cutEnds(StoneQuarry::bestCut));
        Sentence.test(29, "Returns the same as bestCut, by trying pieces that do not become longer and the rest of the bar.",
            () -> cutEnds(StoneQuarry::bestCutByTrial));
        Sentence.test(30, "Returns the least number of pieces of a best cut.", StoneEdgesTest::piecesAtTheEnds);
    }

    private static StoneQuarry onlyPrice(int length, int price) {
        StoneQuarry x = new StoneQuarry();
        x.setPrice(length, price);
        return x;
    }

    private static void cutEnds(OfLength act) {
        Check.due("all prices 0, length 30", 0, () -> act.of(new StoneQuarry(), 30));
        Check.due("the most coins there can be", 2970, () -> act.of(onlyPrice(1, 99), 30));
        Check.due("one piece of 1", 99, () -> act.of(onlyPrice(1, 99), 1));
        Check.due("a bar that is too short for the piece", 0, () -> act.of(onlyPrice(10, 99), 9));
        Check.due("a bar that is just the piece", 99, () -> act.of(onlyPrice(10, 99), 10));
        Check.due("a bar that is longer than the piece by one", 99, () -> act.of(onlyPrice(10, 99), 11));
        Check.due("a bar of two pieces less one", 99, () -> act.of(onlyPrice(10, 99), 19));
        Check.due("a bar of two pieces", 198, () -> act.of(onlyPrice(10, 99), 20));
        Check.due("a bar of three pieces", 297, () -> act.of(onlyPrice(10, 99), 30));
        Check.due("a bar of three pieces less one", 198, () -> act.of(onlyPrice(10, 99), 29));
    }

    private static void pieces(int want, StoneQuarry x, int length) {
        Check.due("fewestPieces(" + length + ")", want, () -> x.fewestPieces(length));
    }

    private static void piecesAtTheEnds() {
        StoneQuarry free = new StoneQuarry();
        pieces(1, free, 1);
        pieces(1, free, 10);
        pieces(2, free, 11);
        pieces(2, free, 20);
        pieces(3, free, 21);
        pieces(3, free, 30);
        pieces(30, onlyPrice(1, 1), 30);
        pieces(1, onlyPrice(1, 1), 1);
        pieces(1, onlyPrice(10, 1), 10);
        pieces(2, onlyPrice(10, 1), 11);
        StoneQuarry even = onlyPrice(1, 5);
        even.setPrice(2, 10);
        pieces(15, even, 30);
        even.setPrice(2, 9);
        pieces(30, even, 30);
        even.setPrice(2, 11);
        pieces(15, even, 29);
        StoneQuarry tied = onlyPrice(1, 1);
        tied.setPrice(3, 4);
        tied.setPrice(4, 6);
        pieces(2, tied, 6);
        tied.setPrice(2, 3);
        tied.setPrice(5, 7);
        pieces(2, tied, 8);
    }

    // Promise 31.

    /** So many tonnes, 1 to 29, are left in stock; pieces of 10 tonnes bring 30 coins. */
    private static StoneQuarry stock(int tonnes) {
        StoneQuarry x = Check.rich();
        x.addCharge(5, 5, 1);
        x.sell(15);
        x.sell(30 - tonnes);
        return x;
    }

    private static void sell() {
        Sentence.test(31, BAR, () -> {
            StoneQuarry x = Check.rich();
            x.setPrice(1, 2);
            Check.due("the shortest bar", 2, () -> x.sell(1));
            Check.due("accounts", "44 75 31 92", () -> Check.accountsOf(x));
            Check.due("the longest bar", 90, () -> x.sell(30));
            Check.due("accounts", "14 75 61 182", () -> Check.accountsOf(x));
        });
        Sentence.test(31, "Returns the coins that it brings.", () -> {
            Check.due("nothing", 0, () -> Quarries.allOpen().sell(30));
            StoneQuarry x = Quarries.allOpen();
            x.setPrice(1, 99);
            Check.due("the most", 2970, () -> x.sell(30));
        });
        Sentence.test(31, NO_SUCH_LENGTH, () -> noSuchBar("sell", StoneQuarry::sell));
        Sentence.test(31, "Throws `UnsupportedOperationException` if there is less stone", () -> {
            for (int tonnes = 1; tonnes <= 29; tonnes++) {
                tooLittle(tonnes);
            }
            Refusal.due("sell(1) of nothing", TOO_LITTLE, StoneQuarry::new, x -> x.sell(1));
            Refusal.due("sell(30) of nothing", TOO_LITTLE, StoneQuarry::new, x -> x.sell(30));
        });
    }

    private static void tooLittle(int tonnes) {
        Refusal.due("sell(" + (tonnes + 1) + ") of " + tonnes, TOO_LITTLE, () -> Quarries.furnished(stock(tonnes)),
            x -> x.sell(tonnes + 1));
        StoneQuarry x = stock(tonnes);
        Check.due("sell(" + tonnes + ") of as much", tonnes / 10 * 30, () -> x.sell(tonnes));
        Check.due("stone", 0, x::stone);
    }

    // Promises 32 to 35.

    /** Each of the 36 cells was of the hardest rock and is open: no quarry yields more. */
    private static StoneQuarry mostStone() {
        StoneQuarry x = Quarries.rockOf(9);
        for (int cell = 0; cell < 36; cell++) {
            x.addCharge(cell / 6, cell % 6, 9);
            x.ignite(0);
        }
        return x;
    }

    private static StoneQuarry mostSold() {
        StoneQuarry x = mostStone();
        x.setPrice(1, 99);
        for (int bar = 0; bar < 10; bar++) {
            x.sell(30);
        }
        x.sell(24);
        return x;
    }

    private static void accounts() {
        Sentence.test(32, "Returns the stone in stock.", () -> {
            Check.due("at first", 0, new StoneQuarry()::stone);
            Check.due("the most", 324, mostStone()::stone);
            Check.due("when all is sold", 0, mostSold()::stone);
        });
        Sentence.test(33, "Returns the stone that was quarried so far.", () -> {
            Check.due("at first", 0, new StoneQuarry()::quarried);
            Check.due("the least", 36, Quarries.allOpen()::quarried);
            Check.due("the most", 324, mostStone()::quarried);
            Check.due("when all is sold", 324, mostSold()::quarried);
        });
        Sentence.test(34, "Returns the stone that was sold so far.", () -> {
            Check.due("at first", 0, new StoneQuarry()::sold);
            Check.due("when none is sold", 0, mostStone()::sold);
            Check.due("when all is sold", 324, mostSold()::sold);
        });
        Sentence.test(35, "Returns the coins.", () -> {
            Check.due("at first", 0L, new StoneQuarry()::coins);
            Check.due("when none is sold", 0L, mostStone()::coins);
            Check.due("the most", 324L * 99, mostSold()::coins);
        });
    }

    // Promises 36 and 37.

    private static void meanHardness() {
        Sentence.test(36, "Returns the sum of the hardness divided by the number of rock cells, both converted to double.", () -> {
            Check.due("of the softest rock", 1.0, Quarries.rockOf(1)::meanHardness);
            Check.due("of the hardest rock", 9.0, Quarries.rockOf(9)::meanHardness);
            Check.due("of one cell", 2.0, Quarries.allOpenBut(0, 0, 2)::meanHardness);
            Check.due("of one cell", 9.0, Quarries.allOpenBut(5, 5, 9)::meanHardness);
            StoneQuarry x = new StoneQuarry();
            x.setHardness(5, 5, 6);
            Check.due("of no whole number", 181.0 / 36.0, x::meanHardness);
        });
        Sentence.test(36, "Throws `ArithmeticException` if all cells are open", () -> {
            Refusal.due("meanHardness", ArithmeticException.class, Quarries::allOpen, StoneQuarry::meanHardness);
            Refusal.due("meanHardness", ArithmeticException.class, () -> Quarries.furnished(mostSold()),
                StoneQuarry::meanHardness);
        });
    }

    private static void openShare() {
        Sentence.test(37, "Returns their number divided by 36, both converted to float.", () -> {
            Check.due("of none", 0.0f, new StoneQuarry()::openShare);
            Check.due("of all", 1.0f, Quarries.allOpen()::openShare);
            Check.due("of all but one", 35.0f / 36.0f, Quarries.allOpenBut(5, 5, 9)::openShare);
            StoneQuarry x = Check.wall("555555", "555555", "555555", "555555", "555555", "55555.");
            Check.due("of one", 1.0f / 36.0f, x::openShare);
        });
    }
}
