import java.util.NoSuchElementException;

/** Promises 9 to 19 at their edges: each test names the sentence that it tests. */
final class ChargeEdgesTest {
    private static final Class<IllegalArgumentException> ARGUMENT = IllegalArgumentException.class;
    private static final Class<IllegalStateException> STATE = IllegalStateException.class;
    private static final Class<IndexOutOfBoundsException> INDEX = IndexOutOfBoundsException.class;
    private static final String CHARGE = "- `charge`: number of the charge";
    private static final String NO_CHARGE = "Throws `IndexOutOfBoundsException` if there is no such charge";

    public static void main(String[] args) {
        run();
        Sentence.allNamed(9, 19);
        Check.end();
    }

    static void run() {
        addCharge();
        removeCharge();
        ignite();
        chargeCount();
        places();
        chains();
        opens();
        bestCharge();
    }

    /** Numbers that no charge has: no charges, three of four that were laid, six. */
    private static void noSuchCharge(String call, java.util.function.BiFunction<StoneQuarry, Integer, Object> act) {
        for (int charge : new int[] {-1, 3, 4, 6, 256, Integer.MIN_VALUE, Integer.MAX_VALUE}) {
            Refusal.due(call + "(" + charge + ") of three", INDEX, Quarries::typing, x -> act.apply(x, charge));
        }
        for (int charge : new int[] {-1, 6, 7, Integer.MIN_VALUE, Integer.MAX_VALUE}) {
            Refusal.due(call + "(" + charge + ") of six", INDEX, Quarries::sixCharges, x -> act.apply(x, charge));
        }
        for (int charge : new int[] {-1, 0, 5}) {
            Refusal.due(call + "(" + charge + ") of none", INDEX, StoneQuarry::new, x -> act.apply(x, charge));
        }
        Refusal.due(call + "(0) of none left", INDEX, ChargeEdgesTest::noneLeft, x -> act.apply(x, 0));
    }

    private static StoneQuarry noneLeft() {
        StoneQuarry x = new StoneQuarry();
        x.addCharge(1, 1, 6);
        x.removeCharge(0);
        return x;
    }

    // Promise 9.

    private static void addCharge() {
        Sentence.test(9, "- `row`: the row, 0 to 5", () -> {
            StoneQuarry x = new StoneQuarry();
            Check.due("addCharge(0, 2, 3)", 0, () -> x.addCharge(0, 2, 3));
            Check.due("addCharge(5, 2, 3)", 1, () -> x.addCharge(5, 2, 3));
            Check.due("charges", "023 523 ", () -> Check.chargesOf(x));
        });
        Sentence.test(9, "- `column`: the column, 0 to 5", () -> {
            StoneQuarry x = new StoneQuarry();
            Check.due("addCharge(2, 0, 3)", 0, () -> x.addCharge(2, 0, 3));
            Check.due("addCharge(2, 5, 3)", 1, () -> x.addCharge(2, 5, 3));
            Check.due("charges", "203 253 ", () -> Check.chargesOf(x));
        });
        Sentence.test(9, "- `strength`: its strength, 1 to 9", () -> {
            StoneQuarry x = new StoneQuarry();
            Check.due("addCharge(2, 2, 1)", 0, () -> x.addCharge(2, 2, 1));
            Check.due("addCharge(2, 3, 9)", 1, () -> x.addCharge(2, 3, 9));
            Check.due("charges", "221 239 ", () -> Check.chargesOf(x));
        });
        Sentence.test(9, "Returns the number of the charge.", ChargeEdgesTest::numbersOfNewCharges);
        Sentence.test(9, "Throws `IllegalArgumentException` if there is no such cell, or the strength is out of range",
            ChargeEdgesTest::layingOutOfRange);
        Sentence.test(9, "Throws `IllegalStateException` if there are 6 charges, the cell is open, or there is a charge in it",
            ChargeEdgesTest::layingThereRefused);
    }

    private static void numbersOfNewCharges() {
        StoneQuarry x = new StoneQuarry();
        for (int n = 0; n < 6; n++) {
            int column = n;
            Check.due("charge " + n, n, () -> x.addCharge(3, column, 1));
        }
        x.removeCharge(0);
        Check.due("the sixth one again", 5, () -> x.addCharge(3, 0, 1));
        Check.due("charges", "311 321 331 341 351 301 ", () -> Check.chargesOf(x));
    }

    private static void layingOutOfRange() {
        for (int[] place : Quarries.OUTSIDE) {
            Refusal.due("addCharge(" + place[0] + ", " + place[1] + ", 5)", ARGUMENT, Quarries::typing,
                x -> x.addCharge(place[0], place[1], 5));
        }
        for (int strength : new int[] {0, 10, -1, 256 + 5, Integer.MIN_VALUE, Integer.MAX_VALUE}) {
            Refusal.due("addCharge(3, 3, " + strength + ")", ARGUMENT, Quarries::typing,
                x -> x.addCharge(3, 3, strength));
        }
    }

    private static void layingThereRefused() {
        Refusal.due("a seventh charge", STATE, Quarries::sixCharges, x -> x.addCharge(0, 0, 1));
        Refusal.due("in an open cell", STATE, Quarries::typing, x -> x.addCharge(0, 0, 9));
        Refusal.due("in a dug cell", STATE, Quarries::typing, x -> x.addCharge(5, 0, 9));
        Refusal.due("in the cell of the first charge", STATE, Quarries::typing, x -> x.addCharge(5, 5, 9));
        Refusal.due("in the cell of the last charge", STATE, Quarries::typing, x -> x.addCharge(1, 5, 4));
        Check.due("where a charge was removed", 3, () -> Quarries.busy().addCharge(5, 4, 3));
        StoneQuarry x = Quarries.sixCharges();
        x.removeCharge(3);
        Check.due("the sixth charge", 5, () -> x.addCharge(0, 0, 1));
        Check.fails("the seventh charge", STATE, () -> x.addCharge(0, 1, 1));
    }

    // Promise 10.

    private static void removeCharge() {
        Sentence.test(10, CHARGE, () -> {
            StoneQuarry x = Quarries.sixCharges();
            x.removeCharge(5);
            Check.due("without the last one", "505 511 522 533 544 ", () -> Check.chargesOf(x));
            x.removeCharge(0);
            Check.due("without the first one", "511 522 533 544 ", () -> Check.chargesOf(x));
            x.removeCharge(1);
            Check.due("without one between", "511 533 544 ", () -> Check.chargesOf(x));
        });
        Sentence.test(10, "Returns the number of charges that are left.", () -> {
            StoneQuarry x = Quarries.sixCharges();
            for (int left = 5; left >= 0; left--) {
                Check.due("removeCharge(0)", left, () -> x.removeCharge(0));
            }
            Check.due("chargeCount", 0, x::chargeCount);
        });
        Sentence.test(10, NO_CHARGE, () -> noSuchCharge("removeCharge", StoneQuarry::removeCharge));
    }

    // Promise 11.

    private static void ignite() {
        Sentence.test(11, CHARGE, () -> {
            StoneQuarry x = Quarries.sixCharges();
            Check.due("ignite(0)", 1, () -> x.ignite(0));
            Check.due("charges", "511 522 533 544 555 ", () -> Check.chargesOf(x));
            Check.due("ignite(4), the last one", 0, () -> x.ignite(4));
            Check.due("charges", "511 522 533 544 ", () -> Check.chargesOf(x));
        });
        Sentence.test(11, "Returns the number of cells that become open.", ChargeEdgesTest::cellsOfBlasts);
        Sentence.test(11, NO_CHARGE, () -> noSuchCharge("ignite", StoneQuarry::ignite));
    }

    private static StoneQuarry middleCharge(int hardness, int strength) {
        StoneQuarry x = Quarries.rockOf(hardness);
        x.addCharge(2, 2, strength);
        return x;
    }

    private static void cellsOfBlasts() {
        Check.due("no cell", 0, () -> middleCharge(9, 8).ignite(0));
        Check.due("one cell", 1, () -> middleCharge(9, 9).ignite(0));
        Check.due("all cells but a corner", 35, () -> middleCharge(1, 6).ignite(0));
        Check.due("all cells", 36, () -> middleCharge(1, 7).ignite(0));
        Check.due("all cells with strength to spare", 36, () -> middleCharge(1, 9).ignite(0));
        StoneQuarry last = Quarries.allOpenBut(5, 5, 4);
        last.addCharge(5, 5, 4);
        Check.due("the only cell that is left", 1, () -> last.ignite(0));
        Check.due("openCount", 36, last::openCount);
    }

    // Promises 12 to 15.

    private static void chargeCount() {
        Sentence.test(12, "Returns the number of charges.", () -> {
            Check.due("none", 0, new StoneQuarry()::chargeCount);
            Check.due("six", 6, Quarries.sixCharges()::chargeCount);
            Check.due("none left", 0, noneLeft()::chargeCount);
        });
    }

    private static StoneQuarry corners() {
        StoneQuarry x = new StoneQuarry();
        x.addCharge(0, 5, 1);
        x.addCharge(2, 3, 2);
        x.addCharge(2, 4, 3);
        x.addCharge(3, 3, 4);
        x.addCharge(3, 2, 3);
        x.addCharge(5, 0, 9);
        return x;
    }

    private static void places() {
        Sentence.test(13, CHARGE, () -> {
            Check.due("chargeRow(0)", 0, () -> corners().chargeRow(0));
            Check.due("chargeRow(5)", 5, () -> corners().chargeRow(5));
        });
        Sentence.test(13, NO_CHARGE, () -> noSuchCharge("chargeRow", StoneQuarry::chargeRow));
        Sentence.test(14, CHARGE, () -> {
            Check.due("chargeColumn(0)", 5, () -> corners().chargeColumn(0));
            Check.due("chargeColumn(5)", 0, () -> corners().chargeColumn(5));
        });
        Sentence.test(14, NO_CHARGE, () -> noSuchCharge("chargeColumn", StoneQuarry::chargeColumn));
        Sentence.test(15, CHARGE, () -> {
            Check.due("chargeStrength(0)", 1, () -> corners().chargeStrength(0));
            Check.due("chargeStrength(5)", 9, () -> corners().chargeStrength(5));
        });
        Sentence.test(15, NO_CHARGE, () -> noSuchCharge("chargeStrength", StoneQuarry::chargeStrength));
    }

    // Promises 16 and 17.

    /** Each charge reaches just the ones beside it. */
    private static StoneQuarry rowOfCharges(int strength) {
        StoneQuarry x = Quarries.rockOf(2);
        for (int column = 0; column < 6; column++) {
            x.addCharge(0, column, strength);
        }
        return x;
    }

    private interface Count {
        int of(StoneQuarry x, int charge);
    }

    private static void ends(String call, int want, StoneQuarry x, Count count) {
        Check.due(call + "(0)", want, () -> count.of(x, 0));
        Check.due(call + "(5)", want, () -> count.of(x, 5));
    }

    private static void chains() {
        Sentence.test(16, CHARGE, () -> ends("chainOf", 1, Quarries.sixCharges(), StoneQuarry::chainOf));
        Sentence.test(16, "Returns how many charges would explode if a charge was ignited, itself included, by letting one after the other explode.",
            () -> chainEnds("chainOf", StoneQuarry::chainOf));
        Sentence.test(16, NO_CHARGE, () -> noSuchCharge("chainOf", StoneQuarry::chainOf));
        Sentence.test(17, CHARGE, () -> ends("chainByRounds", 1, Quarries.sixCharges(), StoneQuarry::chainByRounds));
        Sentence.test(17, "Returns the same as chainOf, by rounds in which all charges are asked which other ones they set off, until nothing changes.",
            () -> chainEnds("chainByRounds", StoneQuarry::chainByRounds));
        Sentence.test(17, NO_CHARGE, () -> noSuchCharge("chainByRounds", StoneQuarry::chainByRounds));
    }

    private static void chainEnds(String call, Count count) {
        ends(call + ", not even its own cell opens", 1, rowOfCharges(1), count);
        ends(call + ", only its own cell opens", 1, rowOfCharges(2), count);
        ends(call + ", each sets off the next one", 6, rowOfCharges(3), count);
        ends(call + ", each sets off all", 6, rowOfCharges(9), count);
        StoneQuarry gap = rowOfCharges(3);
        gap.setHardness(0, 3, 3);
        Check.due(call + "(0), up to rock that is too hard by one", 3, () -> count.of(gap, 0));
        Check.due(call + "(2), next to it", 3, () -> count.of(gap, 2));
        Check.due(call + " behind it", 2, () -> count.of(gap, 5));
        Check.due(call + " of the hard one itself", 6, () -> count.of(gap, 3));
    }

    // Promise 18.

    private static void opens() {
        Sentence.test(18, CHARGE, () -> {
            StoneQuarry x = Quarries.sixCharges();
            Check.due("opensOf(0)", 1, () -> x.opensOf(0));
            Check.due("opensOf(5)", 0, () -> x.opensOf(5));
        });
        Sentence.test(18, "Returns how many cells would become open if a charge was ignited.", () -> {
            Check.due("no cell", 0, () -> middleCharge(9, 8).opensOf(0));
            Check.due("one cell", 1, () -> middleCharge(9, 9).opensOf(0));
            Check.due("all cells but a corner", 35, () -> middleCharge(1, 6).opensOf(0));
            Check.due("all cells", 36, () -> middleCharge(1, 7).opensOf(0));
            ends("opensOf, by a chain", 12, rowOfCharges(3), StoneQuarry::opensOf);
            StoneQuarry x = middleCharge(1, 9);
            x.opensOf(0);
            Check.due("openCount afterwards", 0, x::openCount);
            Check.due("chargeCount afterwards", 1, x::chargeCount);
        });
        Sentence.test(18, NO_CHARGE, () -> noSuchCharge("opensOf", StoneQuarry::opensOf));
    }

    // Promise 19.

    private static void bestCharge() {
        Sentence.test(19, "Returns the charge that would open the most cells; of several, the one with the lowest number.",
            ChargeEdgesTest::bestOfSeveral);
        Sentence.test(19, "Throws `NoSuchElementException` if there are no charges", () -> {
            Refusal.due("bestCharge", NoSuchElementException.class, StoneQuarry::new, StoneQuarry::bestCharge);
            Refusal.due("bestCharge", NoSuchElementException.class, ChargeEdgesTest::noneLeft, StoneQuarry::bestCharge);
            Refusal.due("bestCharge", NoSuchElementException.class, () -> Quarries.furnished(Check.rich()),
                StoneQuarry::bestCharge);
        });
    }

    private static void bestOfSeveral() {
        StoneQuarry none = Quarries.rockOf(9);
        for (int column = 0; column < 6; column++) {
            none.addCharge(column, 0, 8);
        }
        Check.due("six that open nothing", 0, none::bestCharge);
        StoneQuarry alike = rowOfCharges(3);
        Check.due("six of one chain", 0, alike::bestCharge);
        StoneQuarry last = Quarries.sixCharges();
        last.removeCharge(0);
        last.addCharge(0, 0, 6);
        Check.due("the last one", 5, last::bestCharge);
        last.removeCharge(0);
        last.addCharge(0, 5, 6);
        Check.due("the last two are alike", 4, last::bestCharge);
        last.removeCharge(0);
        last.addCharge(3, 3, 5);
        Check.due("a weaker one behind the best", 3, last::bestCharge);
        last.undo();
        last.undo();
        last.setHardness(1, 5, 6);
        last.setHardness(0, 0, 7);
        Check.due("the last two are alike, with one cell less", 4, last::bestCharge);
        last.setHardness(1, 0, 6);
        Check.due("the last one again", 5, last::bestCharge);
    }
}
