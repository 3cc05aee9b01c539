import java.util.NoSuchElementException;

/** Promises 9 to 19: charges and blasts. */
final class ChargeTest {
    private static final Class<IllegalArgumentException> ARGUMENT = IllegalArgumentException.class;
    private static final Class<IllegalStateException> STATE = IllegalStateException.class;
    private static final Class<IndexOutOfBoundsException> INDEX = IndexOutOfBoundsException.class;

    public static void main(String[] args) {
        addCharge();
        removeCharge();
        numbersOfCharges();
        ignite();
        igniteWithoutEffect();
        chains();
        opens();
        bestCharge();
        wrongNumbers();
        Check.end();
    }

    private static void addCharge() {
        StoneQuarry x = new StoneQuarry();
        Check.fails("addCharge(6, 0, 5)", ARGUMENT, () -> x.addCharge(6, 0, 5));
        Check.fails("addCharge(-1, 0, 5)", ARGUMENT, () -> x.addCharge(-1, 0, 5));
        Check.fails("addCharge(0, 6, 5)", ARGUMENT, () -> x.addCharge(0, 6, 5));
        Check.fails("addCharge(0, -1, 5)", ARGUMENT, () -> x.addCharge(0, -1, 5));
        Check.fails("addCharge(0, 0, 0)", ARGUMENT, () -> x.addCharge(0, 0, 0));
        Check.fails("addCharge(0, 0, 10)", ARGUMENT, () -> x.addCharge(0, 0, 10));
        Check.fails("addCharge(0, 0, MIN)", ARGUMENT, () -> x.addCharge(0, 0, Integer.MIN_VALUE));
        Check.due("addCharge(0, 0, 1)", 0, () -> x.addCharge(0, 0, 1));
        Check.due("addCharge(5, 5, 9)", 1, () -> x.addCharge(5, 5, 9));
        Check.fails("addCharge to a cell with a charge", STATE, () -> x.addCharge(0, 0, 3));
        for (int n = 2; n < 6; n++) {
            int column = n;
            Check.due("addCharge(3, " + n + ", 4)", n, () -> x.addCharge(3, column, 4));
        }
        Check.due("chargeCount", 6, x::chargeCount);
        Check.fails("a seventh charge", STATE, () -> x.addCharge(4, 4, 4));
        Check.fails("a seventh charge outside", ARGUMENT, () -> x.addCharge(4, 6, 4));
        x.removeCharge(0);
        Check.due("addCharge after removeCharge", 5, () -> x.addCharge(4, 4, 4));
        StoneQuarry open = Check.rich();
        Check.fails("addCharge in an open cell", STATE, () -> open.addCharge(0, 0, 3));
        Check.fails("addCharge in an open cell, too strong", ARGUMENT, () -> open.addCharge(0, 0, 10));
        Check.due("addCharge in rock", 0, () -> open.addCharge(5, 5, 3));
    }

    private static StoneQuarry laid() {
        StoneQuarry x = new StoneQuarry();
        x.addCharge(0, 1, 1);
        x.addCharge(1, 2, 2);
        x.addCharge(2, 3, 3);
        x.addCharge(3, 4, 4);
        x.addCharge(4, 5, 1);
        x.addCharge(5, 0, 2);
        return x;
    }

    private static void removeCharge() {
        StoneQuarry x = laid();
        Check.due("removeCharge(2)", 5, () -> x.removeCharge(2));
        Check.due("charges", "011 122 344 451 502 ", () -> Check.chargesOf(x));
        Check.due("removeCharge(0)", 4, () -> x.removeCharge(0));
        Check.due("charges", "122 344 451 502 ", () -> Check.chargesOf(x));
        Check.due("removeCharge(3)", 3, () -> x.removeCharge(3));
        Check.due("charges", "122 344 451 ", () -> Check.chargesOf(x));
        Check.fails("removeCharge(3) again", INDEX, () -> x.removeCharge(3));
        Check.due("nothing opened", 0, x::openCount);
        Check.due("removeCharge(1)", 2, () -> x.removeCharge(1));
        Check.due("removeCharge(1)", 1, () -> x.removeCharge(1));
        Check.due("removeCharge(0)", 0, () -> x.removeCharge(0));
        Check.fails("removeCharge(0) of none", INDEX, () -> x.removeCharge(0));
    }

    private static void numbersOfCharges() {
        StoneQuarry x = laid();
        Check.due("chargeRow(3)", 3, () -> x.chargeRow(3));
        Check.due("chargeColumn(3)", 4, () -> x.chargeColumn(3));
        Check.due("chargeStrength(3)", 4, () -> x.chargeStrength(3));
        Check.due("chargeRow(5)", 5, () -> x.chargeRow(5));
        Check.due("chargeColumn(5)", 0, () -> x.chargeColumn(5));
        Check.due("ignite(2) opens nothing", 0, () -> x.ignite(2));
        Check.due("charges", "011 122 344 451 502 ", () -> Check.chargesOf(x));
    }

    private static void ignite() {
        StoneQuarry x = new StoneQuarry();
        x.addCharge(2, 2, 7);
        Check.due("ignite(0)", 13, () -> x.ignite(0));
        Check.due("row 0", "55.555", () -> Check.lineOf(x, x.writeRow(0)));
        Check.due("row 1", "5...55", () -> Check.lineOf(x, x.writeRow(1)));
        Check.due("row 2", ".....5", () -> Check.lineOf(x, x.writeRow(2)));
        Check.due("row 4", "55.555", () -> Check.lineOf(x, x.writeRow(4)));
        Check.due("row 5", "555555", () -> Check.lineOf(x, x.writeRow(5)));
        Check.due("stone", 65, x::stone);
        Check.due("quarried", 65, x::quarried);
        Check.due("chargeCount", 0, x::chargeCount);
        x.addCharge(2, 5, 6);
        Check.due("open cells do not become open again", 3, () -> x.ignite(0));
        Check.due("openCount", 16, x::openCount);
        Check.due("stone", 80, x::stone);
        StoneQuarry mixed = Check.wall("987654", "999999", "999999", "999999", "999999", "999999");
        mixed.addCharge(0, 5, 9);
        Check.due("hardness at most strength minus distance", 3, () -> mixed.ignite(0));
        Check.due("stone of mixed rock", 15, mixed::stone);
    }

    private static void igniteWithoutEffect() {
        StoneQuarry x = new StoneQuarry();
        x.addCharge(3, 3, 4);
        x.addCharge(3, 4, 4);
        Check.due("a weak charge opens nothing", 0, () -> x.ignite(0));
        Check.due("it is gone", 1, x::chargeCount);
        Check.due("its cell stays rock", 5, () -> x.hardnessOf(3, 3));
        Check.due("the other one is left", 4, () -> x.chargeColumn(0));
        Check.due("ignite is a modification", 2, x::undo);
        StoneQuarry around = Check.wall("555555", "555555", "551955", "551555", "555555", "555555");
        around.addCharge(2, 3, 2);
        Check.due("a weak charge opens a soft neighbour", 1, () -> around.ignite(0));
        Check.due("its cell stays rock", 9, () -> around.hardnessOf(2, 3));
        Check.due("the neighbour is open", true, () -> around.isOpen(2, 2));
        Check.due("the next one stays rock", 1, () -> around.hardnessOf(3, 2));
    }

    private static StoneQuarry chain() {
        StoneQuarry x = Check.wall("111111", "999999", "999999", "999999", "999999", "199991");
        x.addCharge(0, 0, 2);
        x.addCharge(0, 1, 3);
        x.addCharge(0, 3, 2);
        x.addCharge(0, 5, 1);
        x.addCharge(5, 0, 5);
        x.addCharge(5, 5, 1);
        return x;
    }

    private static void chains() {
        StoneQuarry x = chain();
        int[] due = {3, 3, 1, 1, 1, 1};
        for (int n = 0; n < 6; n++) {
            int charge = n;
            Check.due("chainOf(" + n + ")", due[n], () -> x.chainOf(charge));
            Check.due("chainByRounds(" + n + ")", due[n], () -> x.chainByRounds(charge));
        }
        Check.due("nothing changed", 6, x::chargeCount);
        Check.due("ignite(0)", 5, () -> x.ignite(0));
        Check.due("three are gone", "051 505 551 ", () -> Check.chargesOf(x));
        backwards();
    }

    /** The chain goes on from the last charge to the first one, so that each round finds one more. */
    private static void backwards() {
        StoneQuarry x = Check.wall("111111", "999999", "999999", "999999", "999999", "999999");
        for (int column = 0; column < 6; column++) {
            x.addCharge(0, column, 2);
        }
        Check.due("chainOf(5)", 6, () -> x.chainOf(5));
        Check.due("chainByRounds(5)", 6, () -> x.chainByRounds(5));
        Check.due("chainByRounds(0)", 6, () -> x.chainByRounds(0));
        x.removeCharge(2);
        Check.due("chainOf(4)", 3, () -> x.chainOf(4));
        Check.due("chainByRounds(4)", 3, () -> x.chainByRounds(4));
        Check.due("opensOf(4) passes the gap by its edge", 4, () -> x.opensOf(4));
        Check.due("opensOf(0)", 3, () -> x.opensOf(0));
    }

    private static void opens() {
        StoneQuarry x = chain();
        int[] due = {5, 5, 3, 1, 1, 1};
        for (int n = 0; n < 6; n++) {
            int charge = n;
            Check.due("opensOf(" + n + ")", due[n], () -> x.opensOf(charge));
        }
        Check.due("nothing opened", 0, x::openCount);
        Check.due("ignite(1) opens as many", 5, () -> x.ignite(1));
    }

    private static void bestCharge() {
        StoneQuarry x = new StoneQuarry();
        Check.fails("bestCharge without charges", NoSuchElementException.class, x::bestCharge);
        x.addCharge(5, 5, 4);
        Check.due("bestCharge of one that opens nothing", 0, x::bestCharge);
        x.addCharge(0, 0, 4);
        Check.due("bestCharge of two that open nothing", 0, x::bestCharge);
        x.addCharge(0, 5, 6);
        Check.due("bestCharge: 3 cells", 2, x::bestCharge);
        x.addCharge(5, 0, 6);
        Check.due("of several the lowest number", 2, x::bestCharge);
        x.addCharge(3, 3, 6);
        Check.due("bestCharge: 5 cells", 4, x::bestCharge);
        x.removeCharge(0);
        Check.due("bestCharge after removeCharge", 3, x::bestCharge);
        Check.due("bestCharge of a chain", 0, chain()::bestCharge);
        Check.due("nothing is changed", 0, x::openCount);
    }

    private static void wrongNumbers() {
        StoneQuarry x = new StoneQuarry();
        x.addCharge(1, 1, 6);
        x.addCharge(2, 2, 6);
        for (int charge : new int[] {-1, 2, 5, 6, 7, Integer.MAX_VALUE, Integer.MIN_VALUE}) {
            Check.fails("removeCharge(" + charge + ")", INDEX, () -> x.removeCharge(charge));
            Check.fails("ignite(" + charge + ")", INDEX, () -> x.ignite(charge));
            Check.fails("chargeRow(" + charge + ")", INDEX, () -> x.chargeRow(charge));
            Check.fails("chargeColumn(" + charge + ")", INDEX, () -> x.chargeColumn(charge));
            Check.fails("chargeStrength(" + charge + ")", INDEX, () -> x.chargeStrength(charge));
            Check.fails("chainOf(" + charge + ")", INDEX, () -> x.chainOf(charge));
            Check.fails("chainByRounds(" + charge + ")", INDEX, () -> x.chainByRounds(charge));
            Check.fails("opensOf(" + charge + ")", INDEX, () -> x.opensOf(charge));
        }
        Check.due("both are left", 2, x::chargeCount);
    }
}
