/** Promises 38 to 41: the line and the check. */
final class LineTest {
    private static final Class<IllegalArgumentException> ARGUMENT = IllegalArgumentException.class;
    private static final Class<IndexOutOfBoundsException> INDEX = IndexOutOfBoundsException.class;

    public static void main(String[] args) {
        writeRow();
        writeCharge();
        lineAt();
        lineIsNotState();
        isConsistent();
        Check.end();
    }

    private static void writeRow() {
        StoneQuarry x = Check.wall("123456", "789...", "555555", "55..19", "......", "999999");
        x.addCharge(3, 1, 2);
        x.addCharge(5, 0, 1);
        x.addCharge(5, 5, 1);
        String[] due = {"123456", "789...", "555555", "5*..19", "......", "*9999*"};
        for (int r = 0; r < 6; r++) {
            int row = r;
            Check.due("writeRow(" + r + ")", 6, () -> x.writeRow(row));
            Check.due("row " + r, due[r], () -> Check.lineOf(x, 6));
        }
        for (int row : new int[] {-1, 6, Integer.MAX_VALUE, Integer.MIN_VALUE}) {
            Check.fails("writeRow(" + row + ")", ARGUMENT, () -> x.writeRow(row));
        }
        Check.due("the line is left", "*9999*", () -> Check.lineOf(x, 6));
    }

    private static void writeCharge() {
        StoneQuarry x = new StoneQuarry();
        x.addCharge(0, 5, 9);
        x.addCharge(5, 0, 1);
        x.addCharge(3, 4, 7);
        Check.due("writeCharge(2)", 7, () -> x.writeCharge(2));
        Check.due("charge 2", "2@3,4:7", () -> Check.lineOf(x, 7));
        x.writeCharge(0);
        Check.due("charge 0", "0@0,5:9", () -> Check.lineOf(x, 7));
        x.writeCharge(1);
        Check.due("charge 1", "1@5,0:1", () -> Check.lineOf(x, 7));
        for (int charge : new int[] {-1, 3, 6, Integer.MAX_VALUE, Integer.MIN_VALUE}) {
            Check.fails("writeCharge(" + charge + ")", INDEX, () -> x.writeCharge(charge));
        }
        Check.due("the line is left", "1@5,0:1", () -> Check.lineOf(x, 7));
    }

    private static void lineAt() {
        StoneQuarry x = new StoneQuarry();
        Check.fails("lineAt(0) at first", INDEX, () -> x.lineAt(0));
        x.addCharge(1, 1, 1);
        x.writeCharge(0);
        Check.due("lineAt(6) of a charge", '1', () -> x.lineAt(6));
        Check.due("lineAt(1) of a charge", '@', () -> x.lineAt(1));
        x.writeRow(1);
        for (int index : new int[] {-1, 6, 7, Integer.MAX_VALUE, Integer.MIN_VALUE}) {
            Check.fails("lineAt(" + index + ")", INDEX, () -> x.lineAt(index));
        }
        Check.due("lineAt(0)", '5', () -> x.lineAt(0));
        Check.due("lineAt(1)", '*', () -> x.lineAt(1));
        Check.due("lineAt(5)", '5', () -> x.lineAt(5));
    }

    private static void lineIsNotState() {
        StoneQuarry x = new StoneQuarry();
        x.writeRow(0);
        x.save();
        x.setHardness(0, 0, 9);
        x.writeRow(0);
        x.undo();
        Check.due("the line after undo", "955555", () -> Check.lineOf(x, 6));
        x.restore();
        Check.due("the line after restore", "955555", () -> Check.lineOf(x, 6));
    }

    private static void isConsistent() {
        Check.due("isConsistent of a new quarry", true, new StoneQuarry()::isConsistent);
        StoneQuarry x = Check.rich();
        x.setPrice(3, 11);
        for (int column = 0; column < 6; column++) {
            x.addCharge(5, column, 5 + column % 3);
        }
        Check.due("isConsistent with charges", true, x::isConsistent);
        Check.due("it changes no charge", 6, x::chargeCount);
        Check.due("it changes no cell", 15, x::openCount);
        Check.due("it is no modification", 7, x::undo);
        x.ignite(3);
        x.sell(7);
        Check.due("isConsistent after a blast", true, x::isConsistent);
    }
}
