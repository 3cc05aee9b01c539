/** The edges that "Terms" names of the wall, charges, blasts, stone, tunnels, slabs and blocks. */
final class QuarryTerms {
    private static final Class<IllegalArgumentException> ARGUMENT = IllegalArgumentException.class;
    private static final Class<IllegalStateException> STATE = IllegalStateException.class;
    private static final String ROCK_ROW = "555555";
    private static final String HARD_ROW = "999999";

    private QuarryTerms() {
    }

    static void run() {
        wall();
        charges();
        blasts();
        stone();
        tunnelsSlabsAndBlocks();
        clarifications();
    }

    private static void test(String words, Runnable test) {
        Sentence.test(Sentence.TERMS, words, test);
    }

    // The wall.

    private static void wall() {
        test("The stone in stock is what was quarried minus what was sold.", QuarryTerms::stockAtTheEnds);
        test("The wall has 6 rows and 6 columns of cells, numbered from 0; row 0 is at the top, and column 0 in the west.",
            QuarryTerms::cornersOfTheWall);
        test("A cell is rock with a hardness from 1 to 9, or it is open.", QuarryTerms::rockOrOpen);
        test("Two cells are neighbours if they have a common side.", QuarryTerms::neighbours);
        test("A vein is a largest set of rock cells of equal hardness that are connected by steps between neighbours.",
            QuarryTerms::veins);
    }

    private static void stockAtTheEnds() {
        StoneQuarry x = new StoneQuarry();
        Check.due("accounts at first", "0 0 0 0", () -> Check.accountsOf(x));
        x.addCharge(0, 0, 6);
        x.ignite(0);
        Check.due("accounts, none sold", "15 15 0 0", () -> Check.accountsOf(x));
        x.sell(14);
        Check.due("accounts, one tonne left", "1 15 14 0", () -> Check.accountsOf(x));
        x.sell(1);
        Check.due("accounts, all sold", "0 15 15 0", () -> Check.accountsOf(x));
        x.undo();
        Check.due("accounts, one tonne again", "1 15 14 0", () -> Check.accountsOf(x));
    }

    private static void cornersOfTheWall() {
        StoneQuarry x = Check.wall("155552", ROCK_ROW, ROCK_ROW, ROCK_ROW, ROCK_ROW, "355554");
        Check.due("north-west", 1, () -> x.hardnessOf(0, 0));
        Check.due("north-east", 2, () -> x.hardnessOf(0, 5));
        Check.due("south-west", 3, () -> x.hardnessOf(5, 0));
        Check.due("south-east", 4, () -> x.hardnessOf(5, 5));
        Check.due("the top from the west", "155552", () -> Check.lineOf(x, x.writeRow(0)));
        Check.due("the bottom from the west", "355554", () -> Check.lineOf(x, x.writeRow(5)));
        Check.due("all cells", 36, () -> Check.wallOf(x).replace(" ", "").length());
        for (int[] place : Quarries.OUTSIDE) {
            Check.fails("isOpen(" + place[0] + ", " + place[1] + ")", ARGUMENT, () -> x.isOpen(place[0], place[1]));
        }
    }

    private static void rockOrOpen() {
        StoneQuarry x = new StoneQuarry();
        for (int hardness = 1; hardness <= 9; hardness++) {
            int due = hardness;
            x.setHardness(4, 4, due);
            Check.due("hardnessOf", due, () -> x.hardnessOf(4, 4));
            Check.due("isOpen with hardness " + due, false, () -> x.isOpen(4, 4));
        }
        Check.fails("a hardness of 0", ARGUMENT, () -> x.setHardness(4, 4, 0));
        Check.fails("a hardness of 10", ARGUMENT, () -> x.setHardness(4, 4, 10));
        StoneQuarry open = Quarries.allOpen();
        for (int hardness = 1; hardness <= 9; hardness++) {
            int none = hardness;
            Check.due("veins in open cells", 0, () -> open.veinCount(none));
        }
        Check.fails("hardnessOf an open cell", STATE, () -> open.hardnessOf(4, 4));
    }

    private static void neighbours() {
        StoneQuarry corners = Check.wall("155551", "515515", "551155", "551155", "515515", "155551");
        Check.due("corners that touch", 1, () -> corners.veinSize(1, 1));
        Check.due("a common side", 4, () -> corners.veinSize(2, 2));
        Check.due("veins", 9, () -> corners.veinCount(1));
        StoneQuarry ends = Check.wall("155551", "155551", ROCK_ROW, ROCK_ROW, ROCK_ROW, "155551");
        Check.due("a row's end and the next one's beginning", 2, () -> ends.veinSize(0, 5));
        Check.due("a row's two ends, a column's two ends", 4, () -> ends.veinCount(1));
        Check.due("the lowest row alone", 1, () -> ends.veinSize(5, 0));
    }

    private static void veins() {
        Check.due("all cells", 36, () -> Quarries.rockOf(9).veinSize(0, 5));
        StoneQuarry snake = Check.wall("111111", "222221", "111111", "122222", "111111", "222221");
        Check.due("a snake", 21, () -> snake.veinSize(0, 0));
        Check.due("from its other end", 21, () -> snake.veinSize(5, 5));
        Check.due("what it winds around", 5, () -> snake.veinSize(1, 0));
        snake.setHardness(2, 3, 3);
        Check.due("cut through", 9, () -> snake.veinSize(0, 0));
        Check.due("the rest", 11, () -> snake.veinSize(5, 5));
        Check.due("the cell between", 1, () -> snake.veinSize(2, 3));
        StoneQuarry gap = Check.wall("11.111", ROCK_ROW, ROCK_ROW, ROCK_ROW, ROCK_ROW, ROCK_ROW);
        Check.due("up to an open cell", 2, () -> gap.veinSize(0, 0));
        Check.due("behind an open cell", 3, () -> gap.veinSize(0, 3));
    }

    // Charges.

    private static void charges() {
        test("At most 6 charges are laid, numbered from 0 in the order in which they were laid; when a charge is gone, the numbers of the later ones decrease by 1.",
            QuarryTerms::sixCharges);
        test("A charge is in a rock cell, in which there is no other charge, and has a strength from 1 to 9.",
            QuarryTerms::cellsOfCharges);
    }

    private static void sixCharges() {
        StoneQuarry x = Quarries.sixCharges();
        Check.due("six", "505 511 522 533 544 555 ", () -> Check.chargesOf(x));
        Check.fails("a seventh", STATE, () -> x.addCharge(0, 0, 1));
        x.removeCharge(0);
        Check.due("without the first", "511 522 533 544 555 ", () -> Check.chargesOf(x));
        x.removeCharge(2);
        Check.due("without one between", "511 522 544 555 ", () -> Check.chargesOf(x));
        x.removeCharge(3);
        Check.due("without the last", "511 522 544 ", () -> Check.chargesOf(x));
        x.addCharge(0, 0, 1);
        x.addCharge(0, 1, 3);
        x.addCharge(0, 2, 1);
        Check.due("six again", "511 522 544 001 013 021 ", () -> Check.chargesOf(x));
        Check.fails("a seventh again", STATE, () -> x.addCharge(0, 3, 1));
        x.setHardness(0, 0, 1);
        x.setHardness(0, 1, 3);
        x.setHardness(5, 4, 1);
        x.ignite(4);
        Check.due("without the fourth and the fifth, by a blast", "511 522 544 021 ", () -> Check.chargesOf(x));
        x.ignite(2);
        Check.due("without the third, by a blast", "511 522 021 ", () -> Check.chargesOf(x));
    }

    private static void cellsOfCharges() {
        StoneQuarry x = Quarries.busy();
        Check.fails("in an open cell", STATE, () -> x.addCharge(0, 0, 5));
        Check.fails("in the cell of another one", STATE, () -> x.addCharge(2, 4, 6));
        Check.fails("a strength of 0", ARGUMENT, () -> x.addCharge(3, 4, 0));
        Check.fails("a strength of 10", ARGUMENT, () -> x.addCharge(3, 4, 10));
        Check.due("a strength of 1", 3, () -> x.addCharge(3, 4, 1));
        Check.due("a strength of 9", 4, () -> x.addCharge(3, 5, 9));
        Check.due("charges", "552 246 154 341 359 ", () -> Check.chargesOf(x));
    }

    // Blasts.

    private static void blasts() {
        test("When a charge explodes, each rock cell becomes open whose hardness is at most the strength minus the distance of both cells, which is the difference of their rows plus the difference of their columns.",
            QuarryTerms::reachOfBlasts);
        test("A charge explodes if it is ignited, or if its cell becomes open by the explosion of another one.",
            QuarryTerms::whatExplodes);
        test("All charges that explode are gone afterwards.", QuarryTerms::goneAfterwards);
    }

    /** In each place, at its distance from the charge: rock as hard as the power there breaks, harder rock does not. */
    private static void reachOfBlasts() {
        int[][] places = {{2, 2, 0}, {2, 3, 1}, {1, 2, 1}, {2, 0, 2}, {3, 3, 2}, {0, 1, 3}, {5, 3, 4}, {4, 4, 4},
            {5, 5, 6}, {0, 5, 5}, {5, 0, 5}, {0, 0, 4}};
        for (int[] place : places) {
            int distance = place[2];
            for (int strength = distance + 1; strength <= 9; strength++) {
                int power = strength - distance;
                Check.due(place[0] + " " + place[1] + " with strength " + strength, true,
                    opened(place, power, strength));
                if (power < 9) {
                    Check.due(place[0] + " " + place[1] + " with strength " + strength, false,
                        opened(place, power + 1, strength));
                }
            }
            if (distance > 0) {
                Check.due(place[0] + " " + place[1] + " without power", false, opened(place, 1, distance));
            }
        }
        Check.due("two cells away", 13, () -> middleCharge(3, 5).ignite(0));
        Check.due("three cells away, in softer rock by one", 23, () -> middleCharge(2, 5).ignite(0));
    }

    private static Check.Call opened(int[] place, int hardness, int strength) {
        return () -> {
            StoneQuarry x = new StoneQuarry();
            x.addCharge(2, 2, strength);
            x.setHardness(place[0], place[1], hardness);
            x.ignite(0);
            return x.isOpen(place[0], place[1]);
        };
    }

    private static StoneQuarry middleCharge(int hardness, int strength) {
        StoneQuarry x = Quarries.rockOf(hardness);
        x.addCharge(2, 2, strength);
        return x;
    }

    private static void whatExplodes() {
        StoneQuarry x = new StoneQuarry();
        x.addCharge(2, 2, 6);
        x.addCharge(2, 3, 6);
        x.addCharge(2, 5, 6);
        Check.due("chainOf(0), up to a gap", 2, () -> x.chainOf(0));
        Check.due("chainOf(2), behind the gap", 1, () -> x.chainOf(2));
        x.setHardness(2, 3, 6);
        Check.due("chainOf(0), the next one in rock that is too hard by one", 1, () -> x.chainOf(0));
        Check.due("chainOf(1), the other way", 2, () -> x.chainOf(1));
        Check.due("ignite(0)", 4, () -> x.ignite(0));
        Check.due("charges", "236 256 ", () -> Check.chargesOf(x));
        StoneQuarry far = Quarries.rockOf(1);
        far.addCharge(0, 0, 4);
        far.addCharge(0, 3, 1);
        far.addCharge(1, 3, 1);
        far.addCharge(3, 0, 1);
        Check.due("chainOf(0), with what is opened at its reach", 3, () -> far.chainOf(0));
        far.setHardness(0, 3, 2);
        Check.due("chainOf(0), without what is not opened", 2, () -> far.chainOf(0));
    }

    private static void goneAfterwards() {
        StoneQuarry x = new StoneQuarry();
        for (int column = 0; column < 6; column++) {
            x.addCharge(3, column, 6);
        }
        Check.due("ignite(0)", 18, () -> x.ignite(0));
        Check.due("chargeCount", 0, x::chargeCount);
        Check.due("row 3", "......", () -> Check.lineOf(x, x.writeRow(3)));
        StoneQuarry some = new StoneQuarry();
        some.addCharge(0, 0, 1);
        some.addCharge(3, 3, 6);
        some.addCharge(5, 5, 1);
        some.addCharge(3, 4, 6);
        some.addCharge(0, 5, 1);
        some.ignite(1);
        Check.due("the others", "001 551 051 ", () -> Check.chargesOf(some));
        Check.due("a charge laid behind them", 3, () -> some.addCharge(5, 0, 1));
    }

    // Stone.

    private static void stone() {
        test("Each rock cell that becomes open yields as many tonnes of stone as its hardness.", QuarryTerms::yields);
        test("Stone is sold in bars with a length from 1 to 30, which take as many tonnes as their length.",
            QuarryTerms::barsSold);
        test("A bar is cut into pieces with lengths from 1 to 10, and each piece brings the price of its length.",
            QuarryTerms::lengthsOfPieces);
        test("A best cut of a bar is a way to cut the whole bar into pieces that brings the most coins.",
            QuarryTerms::wholeBars);
    }

    private static void yields() {
        for (int hardness = 1; hardness <= 9; hardness++) {
            int due = hardness;
            StoneQuarry x = Quarries.rockOf(9);
            x.setHardness(0, 0, due);
            x.addCharge(0, 0, due);
            x.ignite(0);
            Check.due("of one cell", due + " " + due + " 0 0", () -> Check.accountsOf(x));
        }
        StoneQuarry twice = Quarries.rockOf(1);
        twice.addCharge(0, 0, 2);
        twice.addCharge(0, 1, 2);
        twice.ignite(0);
        Check.due("of cells in two reaches", 5, twice::quarried);
        twice.addCharge(0, 3, 3);
        twice.ignite(0);
        Check.due("of cells that were open already", 12, twice::quarried);
        Check.due("openCount", 12, twice::openCount);
    }

    private static void barsSold() {
        StoneQuarry x = Check.rich();
        Check.fails("a bar of 0", ARGUMENT, () -> x.sell(0));
        Check.fails("a bar of 31", ARGUMENT, () -> x.sell(31));
        Check.due("a bar of 1", 0, () -> x.sell(1));
        Check.due("accounts", "44 75 31 90", () -> Check.accountsOf(x));
        Check.due("a bar of 30", 90, () -> x.sell(30));
        Check.due("accounts", "14 75 61 180", () -> Check.accountsOf(x));
    }

    private static void lengthsOfPieces() {
        for (int length = 1; length <= 10; length++) {
            int piece = length;
            StoneQuarry x = new StoneQuarry();
            x.setPrice(piece, 99);
            Check.due("a piece of " + piece, 99, () -> x.bestCut(piece));
            Check.due("a piece of " + piece, 99, () -> x.bestCutByTrial(piece));
            Check.due("pieces of " + piece, 1, () -> x.fewestPieces(piece));
            Check.due("three pieces of " + piece, 297, () -> x.bestCut(3 * piece));
        }
        Check.fails("the price of 11", ARGUMENT, () -> new StoneQuarry().setPrice(11, 1));
        Check.fails("the price of 0", ARGUMENT, () -> new StoneQuarry().setPrice(0, 1));
        Check.due("no piece of 11", 2, () -> new StoneQuarry().fewestPieces(11));
    }

    private static void wholeBars() {
        StoneQuarry x = new StoneQuarry();
        x.setPrice(10, 99);
        Check.due("the rest of 1 is a piece too", 2, () -> x.fewestPieces(11));
        Check.due("the rest of 9 is a piece too", 3, () -> x.fewestPieces(29));
        Check.due("it brings nothing", 198, () -> x.bestCut(29));
        x.setPrice(9, 98);
        Check.due("two of 9 bring more than one of 10 and the rest", 196, () -> x.bestCut(18));
        x.setPrice(8, 99);
        Check.due("three pieces of 99 coins", 297, () -> x.bestCut(26));
        Check.due("sell", 297, () -> richIn(x).sell(26));
    }

    private static StoneQuarry richIn(StoneQuarry x) {
        x.addCharge(0, 0, 9);
        x.ignite(0);
        return x;
    }

    // Tunnels, slabs and blocks.

    private static void tunnelsSlabsAndBlocks() {
        test("A tunnel is a sequence of cells, each a neighbour of the one before it, from a cell of column 0 to a cell of column 5.",
            QuarryTerms::tunnels);
        test("Its cost is the sum of the hardness of its rock cells.", QuarryTerms::costs);
        test("A slab covers two open cells that are neighbours; slabs do not overlap.", QuarryTerms::slabs);
        test("A block is a rectangle of open cells.", QuarryTerms::blocks);
    }

    private static void tunnel(int want, StoneQuarry x) {
        Check.due("tunnelCost", want, x::tunnelCost);
        Check.due("tunnelByRounds", want, x::tunnelByRounds);
    }

    private static void tunnels() {
        tunnel(9, Check.wall("9.....", "9.....", "9.....", "9.....", "9.....", "9....."));
        tunnel(9, Check.wall(".....9", ".....9", ".....9", ".....9", ".....9", ".....9"));
        tunnel(5, Check.wall("...555", "555...", ROCK_ROW, ROCK_ROW, ROCK_ROW, ROCK_ROW));
        tunnel(9, Check.wall(HARD_ROW, "999...", "...999", HARD_ROW, HARD_ROW, HARD_ROW));
        tunnel(4, Check.wall(HARD_ROW, "999...", "...499", HARD_ROW, HARD_ROW, HARD_ROW));
        tunnel(25, Check.wall(".55555", "5.5555", "55.555", "555.55", "5555.5", "55555."));
        tunnel(36, Check.wall(".9999.", HARD_ROW, HARD_ROW, HARD_ROW, HARD_ROW, HARD_ROW));
        tunnel(45, Check.wall("99999.", ".99999", HARD_ROW, HARD_ROW, HARD_ROW, HARD_ROW));
        tunnel(45, Check.wall(HARD_ROW, HARD_ROW, HARD_ROW, HARD_ROW, ".99999", "99999."));
    }

    private static void costs() {
        tunnel(0, Quarries.allOpen());
        tunnel(6, Quarries.rockOf(1));
        tunnel(54, Quarries.rockOf(9));
        tunnel(3, Check.wall(HARD_ROW, "1....2", HARD_ROW, HARD_ROW, HARD_ROW, HARD_ROW));
        tunnel(8, Check.wall(HARD_ROW, "1.5..2", HARD_ROW, HARD_ROW, HARD_ROW, HARD_ROW));
        tunnel(6, Check.wall(HARD_ROW, "1.9..2", "9.3.99", HARD_ROW, HARD_ROW, HARD_ROW));
    }

    private static void slab(int want, StoneQuarry x) {
        Check.due("mostSlabs", want, x::mostSlabs);
        Check.due("slabsByCells", want, x::slabsByCells);
    }

    private static void slabs() {
        slab(0, Check.wall(".55555", ROCK_ROW, ROCK_ROW, ROCK_ROW, ROCK_ROW, ROCK_ROW));
        slab(0, Check.wall(".55555", "5.5555", "55.555", "555.55", "5555.5", "55555."));
        slab(0, Check.wall("55555.", ".55555", ROCK_ROW, ROCK_ROW, ROCK_ROW, ROCK_ROW));
        slab(0, Check.wall(".5555.", ROCK_ROW, ROCK_ROW, ROCK_ROW, ROCK_ROW, ".5555."));
        slab(1, Check.wall(ROCK_ROW, "55.555", "5...55", "55.555", ROCK_ROW, ROCK_ROW));
        slab(1, Check.wall(ROCK_ROW, ROCK_ROW, ROCK_ROW, ROCK_ROW, ROCK_ROW, "555..."));
        slab(2, Check.wall(ROCK_ROW, ROCK_ROW, ROCK_ROW, ROCK_ROW, "5555..", "5555.."));
        slab(18, Quarries.allOpen());
    }

    private static void block(int want, StoneQuarry x) {
        Check.due("largestBlock", want, x::largestBlock);
        Check.due("blockByHeights", want, x::blockByHeights);
    }

    private static void blocks() {
        block(1, Check.wall(".55555", "5.5555", "55.555", "555.55", "5555.5", "55555."));
        block(2, Check.wall(ROCK_ROW, ROCK_ROW, ROCK_ROW, ROCK_ROW, "55555.", "5555.."));
        block(4, Check.wall(ROCK_ROW, ROCK_ROW, ROCK_ROW, ROCK_ROW, "5555..", "5555.."));
        block(2, Check.wall("5555..", "..5555", ROCK_ROW, ROCK_ROW, ROCK_ROW, ROCK_ROW));
        block(5, Check.wall("55555.", "55555.", "55555.", "55555.", "55555.", ROCK_ROW));
        block(36, Quarries.allOpen());
    }

    // Clarifications.

    private static void clarifications() {
        test("Charges do not matter for tunnels.", () -> {
            tunnel(30, Quarries.sixCharges());
            StoneQuarry x = Check.wall(HARD_ROW, ROCK_ROW, HARD_ROW, HARD_ROW, HARD_ROW, HARD_ROW);
            for (int column = 0; column < 6; column++) {
                x.addCharge(1, column, 9);
            }
            tunnel(30, x);
            x.setHardness(1, 3, 1);
            tunnel(26, x);
        });
        test("The hardness of a cell with a charge can be set.", () -> {
            StoneQuarry x = Quarries.sixCharges();
            Check.due("setHardness(5, 0, 1)", 5, () -> x.setHardness(5, 0, 1));
            Check.due("setHardness(5, 5, 1)", 9, () -> x.setHardness(5, 5, 1));
            Check.due("charges", "505 511 522 533 544 555 ", () -> Check.chargesOf(x));
            Check.due("the row of charges", "******", () -> Check.lineOf(x, x.writeRow(5)));
        });
        test("A charge whose strength does not open its own cell is gone all the same when it explodes, and the cell stays rock.",
            QuarryTerms::weakCharges);
    }

    private static void weakCharges() {
        for (int strength = 1; strength <= 9; strength++) {
            int power = strength;
            StoneQuarry x = Quarries.rockOf(9);
            x.addCharge(3, 3, power);
            x.addCharge(3, 4, 1);
            Check.due("ignite with strength " + power, power == 9 ? 1 : 0, () -> x.ignite(0));
            Check.due("charges", "341 ", () -> Check.chargesOf(x));
            Check.due("isOpen", power == 9, () -> x.isOpen(3, 3));
        }
        StoneQuarry chained = Check.wall(ROCK_ROW, ROCK_ROW, ROCK_ROW, "551955", ROCK_ROW, ROCK_ROW);
        chained.addCharge(3, 2, 1);
        chained.addCharge(3, 3, 2);
        Check.due("a weak one that sets off another one", 1, () -> chained.ignite(1));
        Check.due("chargeCount", 0, chained::chargeCount);
        Check.due("row 3", "55.955", () -> Check.lineOf(chained, chained.writeRow(3)));
    }
}
