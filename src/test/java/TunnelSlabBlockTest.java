/** Promises 20 to 25: tunnels, slabs and blocks, each in its two ways. */
final class TunnelSlabBlockTest {
    public static void main(String[] args) {
        tunnels();
        slabs();
        blocks();
        unchanged();
        askedAgain();
        askedFirst();
        Check.end();
    }

    private static void tunnel(int want, StoneQuarry x) {
        Check.due("tunnelCost", want, x::tunnelCost);
        Check.due("tunnelByRounds", want, x::tunnelByRounds);
    }

    private static void slab(int want, StoneQuarry x) {
        Check.due("mostSlabs", want, x::mostSlabs);
        Check.due("slabsByCells", want, x::slabsByCells);
    }

    private static void block(int want, StoneQuarry x) {
        Check.due("largestBlock", want, x::largestBlock);
        Check.due("blockByHeights", want, x::blockByHeights);
    }

    private static void tunnels() {
        tunnel(30, new StoneQuarry());
        tunnel(54, Check.wall("999999", "999999", "999999", "999999", "999999", "999999"));
        tunnel(26, Check.wall("999999", "999999", "999999", "999999", "555533", "999999"));
        tunnel(11, Check.wall("919111", "919191", "919191", "919191", "919191", "111191"));
        tunnel(8, Check.wall("199911", "199919", "111119", "999991", "199111", "999999"));
        tunnel(0, Check.wall("555555", "......", "555555", "555555", "555555", "555555"));
        tunnel(5, Check.wall("555555", "...555", "55.555", "55...5", "555555", "555555"));
        tunnel(4, Check.wall("1....9", "9999.9", "9....9", "929999", "9....1", "999999"));
        tunnel(0, Check.wall("......", "......", "......", "......", "......", "......"));
        StoneQuarry charged = new StoneQuarry();
        charged.setHardness(0, 0, 1);
        charged.addCharge(0, 0, 9);
        tunnel(26, charged);
    }

    private static void slabs() {
        slab(0, new StoneQuarry());
        slab(18, Check.wall("......", "......", "......", "......", "......", "......"));
        slab(17, Check.wall("55....", "......", "......", "......", "......", "......"));
        slab(16, Check.wall("5.....", "......", "......", "......", "......", ".....5"));
        slab(0, Check.wall(".5.5.5", "5.5.5.", ".5.5.5", "5.5.5.", ".5.5.5", "5.5.5."));
        slab(1, Check.wall("555555", "55.555", "5...55", "55.555", "555555", "555555"));
        slab(2, Check.wall("555555", "555..5", "5...55", "555555", "555555", "555555"));
        slab(0, Check.wall("55555.", ".55555", "555555", "555555", "555555", "555555"));
        slab(5, Check.wall("..5...", ".5.5.5", "......", "555555", "555555", "555555"));
        slab(3, Check.wall("......", "555555", "555555", "555555", "555555", "555555"));
        slab(3, Check.wall("5.5555", "5.5555", "5.5555", "5.5555", "5.5555", "5.5555"));
        slab(1, Check.wall("555555", "555555", "555555", "555555", "55555.", "55555."));
    }

    private static void blocks() {
        block(0, new StoneQuarry());
        block(36, Check.wall("......", "......", "......", "......", "......", "......"));
        block(1, Check.wall(".5.5.5", "5.5.5.", ".5.5.5", "5.5.5.", ".5.5.5", "5.5.5."));
        block(6, Check.wall("555555", "......", "555555", "5..555", "5..555", "555555"));
        block(6, Check.wall("5.5555", "5.5555", "5.5555", "5.5555", "5.5555", "5.5555"));
        block(12, Check.wall("5....5", "5....5", "5....5", ".5555.", "......", ".5555."));
        block(8, Check.wall("555.55", "55..55", "5....5", "5....5", "555555", "......"));
        block(9, Check.wall("...555", "...555", "......", "555...", "555..5", "555..5"));
        block(4, Check.wall("555555", "555555", "555555", "555555", "5555..", "5555.."));
    }

    /** What one call found out must not reach the next one. */
    private static void askedAgain() {
        StoneQuarry x = Check.wall("......", "......", "......", "......", "......", "......");
        for (int round = 0; round < 2; round++) {
            tunnel(0, x);
            slab(18, x);
            block(36, x);
        }
        StoneQuarry edges = Check.wall("......", "555555", "555555", "555555", "555555", "......");
        block(6, edges);
        block(6, edges);
        StoneQuarry y = Check.rich();
        tunnel(5, y);
        y.save();
        y.dig(0, 5);
        tunnel(0, y);
        slab(7, y);
        block(9, y);
        y.restore();
        tunnel(5, y);
        slab(6, y);
        block(9, y);
        y.setHardness(0, 5, 9);
        tunnel(9, y);
        block(9, y);
    }

    /** Each way must stand without the other one having been asked before. */
    private static void askedFirst() {
        Check.due("tunnelByRounds first", 30, new StoneQuarry()::tunnelByRounds);
        Check.due("slabsByCells first", 6, Check.rich()::slabsByCells);
        Check.due("blockByHeights first", 9, Check.rich()::blockByHeights);
        StoneQuarry x = new StoneQuarry();
        x.tunnelByRounds();
        x.setHardness(3, 0, 9);
        x.setHardness(2, 0, 9);
        for (int row = 0; row < 6; row++) {
            x.setHardness(row, 3, 9);
        }
        Check.due("tunnelByRounds of harder rock", 34, x::tunnelByRounds);
        Check.due("tunnelCost of harder rock", 34, x::tunnelCost);
    }

    private static void unchanged() {
        StoneQuarry x = Check.rich();
        x.addCharge(5, 5, 3);
        tunnel(5, x);
        slab(6, x);
        block(9, x);
        Check.due("openCount", 15, x::openCount);
        Check.due("chargeCount", 1, x::chargeCount);
        Check.due("undo", 4, x::undo);
    }
}
