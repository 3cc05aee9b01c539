/** Promises 20 to 25 at their edges, which both ways share: each test names the sentence that it tests. */
final class WaysEdgesTest {
    private static final String OPEN_ROW = "......";
    private static final String ROCK_ROW = "555555";
    private static final String HARD_ROW = "999999";

    public static void main(String[] args) {
        run();
        Sentence.allNamed(20, 25);
        Check.end();
    }

    private interface Way {
        int of(StoneQuarry x);
    }

    static void run() {
        Sentence.test(20, "Returns the least cost of a tunnel, by going on from the cell that is reached with the least cost.",
            () -> tunnelEnds(StoneQuarry::tunnelCost));
        Sentence.test(21, "Returns the same as tunnelCost, by rounds over all cells until no cost becomes less.",
            () -> tunnelEnds(StoneQuarry::tunnelByRounds));
        Sentence.test(22, "Returns the greatest number of slabs that can be cut from the open cells at the same time, by moving slabs to make room for further ones.",
            () -> slabEnds(StoneQuarry::mostSlabs));
        Sentence.test(23, "Returns the same as mostSlabs, cell by cell, for all ways in which the cells that come next can be covered already.",
            () -> slabEnds(StoneQuarry::slabsByCells));
        Sentence.test(24, "Returns the number of cells, 0 if no cell is open.", () -> noBlock(StoneQuarry::largestBlock));
        Sentence.test(24, "Returns the number of cells of the largest block, by trying all rectangles.",
            () -> blockEnds(StoneQuarry::largestBlock));
        Sentence.test(25, "Returns the number of cells.", () -> noBlock(StoneQuarry::blockByHeights));
        Sentence.test(25, "Returns the same as largestBlock, from the numbers of open cells above each cell.",
            () -> blockEnds(StoneQuarry::blockByHeights));
    }

    private static void due(int want, Way way, StoneQuarry x) {
        Check.due("of " + Check.wallOf(x), want, () -> way.of(x));
    }

    private static void tunnelEnds(Way way) {
        due(0, way, Quarries.allOpen());
        due(6, way, Quarries.rockOf(1));
        due(54, way, Quarries.rockOf(9));
        due(0, way, Check.wall(OPEN_ROW, HARD_ROW, HARD_ROW, HARD_ROW, HARD_ROW, HARD_ROW));
        due(0, way, Check.wall(HARD_ROW, HARD_ROW, HARD_ROW, HARD_ROW, HARD_ROW, OPEN_ROW));
        due(1, way, Check.wall(HARD_ROW, HARD_ROW, "1.....", HARD_ROW, HARD_ROW, HARD_ROW));
        due(2, way, Check.wall(HARD_ROW, HARD_ROW, ".....2", HARD_ROW, HARD_ROW, HARD_ROW));
        due(9, way, Check.wall("..9...", "..9...", "..9...", "..9...", "..9...", "..9..."));
        due(9, way, Check.wall("...999", "...999", "...999", "999...", "999...", "999..."));
        due(1, way, Check.wall(".....9", "9999.9", "9.1..9", "9.9999", "9.....", HARD_ROW));
        due(1, way, Check.wall(HARD_ROW, "9.....", "9.9999", "9.1..9", "9999.9", ".....9"));
    }

    private static void slabEnds(Way way) {
        due(0, way, new StoneQuarry());
        due(18, way, Quarries.allOpen());
        due(17, way, Quarries.allOpenBut(0, 0, 5));
        due(17, way, Quarries.allOpenBut(5, 5, 5));
        due(0, way, Check.wall(ROCK_ROW, ROCK_ROW, "55.555", ROCK_ROW, ROCK_ROW, ROCK_ROW));
        due(1, way, Check.wall("..5555", ROCK_ROW, ROCK_ROW, ROCK_ROW, ROCK_ROW, ROCK_ROW));
        due(1, way, Check.wall(ROCK_ROW, ROCK_ROW, ROCK_ROW, ROCK_ROW, ROCK_ROW, "5555.."));
        due(1, way, Check.wall(ROCK_ROW, ROCK_ROW, ROCK_ROW, ROCK_ROW, ".55555", ".55555"));
        due(0, way, Check.wall("55555.", ".55555", ROCK_ROW, ROCK_ROW, ROCK_ROW, ROCK_ROW));
        due(0, way, Check.wall(".5555.", ROCK_ROW, ROCK_ROW, ROCK_ROW, ROCK_ROW, ".5555."));
        due(1, way, Check.wall(ROCK_ROW, "5..555", ROCK_ROW, ROCK_ROW, ROCK_ROW, ROCK_ROW));
        due(1, way, Check.wall(ROCK_ROW, "55..55", ROCK_ROW, ROCK_ROW, ROCK_ROW, ROCK_ROW));
        due(1, way, Check.wall(ROCK_ROW, "5.5555", "5.5555", ROCK_ROW, ROCK_ROW, ROCK_ROW));
        due(1, way, Check.wall(ROCK_ROW, "55.555", "55.555", ROCK_ROW, ROCK_ROW, ROCK_ROW));
        due(1, way, Check.wall("5...55", ROCK_ROW, ROCK_ROW, ROCK_ROW, ROCK_ROW, ROCK_ROW));
        due(2, way, Check.wall("5....5", ROCK_ROW, ROCK_ROW, ROCK_ROW, ROCK_ROW, ROCK_ROW));
        due(16, way, Check.wall("5.....", OPEN_ROW, OPEN_ROW, OPEN_ROW, OPEN_ROW, ".....5"));
        due(0, way, Check.wall(".5.5.5", "5.5.5.", ".5.5.5", "5.5.5.", ".5.5.5", "5.5.5."));
    }

    private static void noBlock(Way way) {
        due(0, way, new StoneQuarry());
        due(0, way, Quarries.rockOf(1));
        due(1, way, Check.wall(ROCK_ROW, ROCK_ROW, ROCK_ROW, ROCK_ROW, ROCK_ROW, "55555."));
        due(1, way, Check.wall(".55555", ROCK_ROW, ROCK_ROW, ROCK_ROW, ROCK_ROW, ROCK_ROW));
    }

    private static void blockEnds(Way way) {
        due(36, way, Quarries.allOpen());
        due(30, way, Quarries.allOpenBut(0, 3, 5));
        due(30, way, Quarries.allOpenBut(5, 5, 5));
        due(18, way, Quarries.allOpenBut(3, 3, 5));
        due(6, way, Check.wall(OPEN_ROW, ROCK_ROW, ROCK_ROW, ROCK_ROW, ROCK_ROW, ROCK_ROW));
        due(6, way, Check.wall("55555.", "55555.", "55555.", "55555.", "55555.", "55555."));
        due(1, way, Check.wall("55555.", ".55555", ROCK_ROW, ROCK_ROW, ROCK_ROW, ROCK_ROW));
        due(1, way, Check.wall(".5555.", ROCK_ROW, ROCK_ROW, ROCK_ROW, ROCK_ROW, ".5555."));
        due(3, way, Check.wall(ROCK_ROW, "55.555", "5...55", "55.555", ROCK_ROW, ROCK_ROW));
        due(3, way, Check.wall("...555", "555...", "...555", "555...", "...555", "555..."));
    }
}
