/** Runs of calls drawn by a fixed sequence of numbers, each answer compared with that of SlowQuarry. */
final class RandomRunsTest {
    private static final int RUNS = 400;
    private static final int CALLS = 440;

    private long seed;
    private StoneQuarry x;
    private SlowQuarry y;
    private int calls;

    public static void main(String[] args) {
        for (int run = 0; run < RUNS; run++) {
            new RandomRunsTest().run(run);
        }
        Check.end();
    }

    private void run(int number) {
        seed = 7919L * number + 17;
        x = new StoneQuarry();
        y = new SlowQuarry();
        for (calls = 0; calls < CALLS;) {
            int kind = below(100);
            if (kind < 45) {
                modify(number);
            } else if (kind < 50) {
                text();
            } else if (kind < 54) {
                undoAndSnapshot();
            } else {
                ask();
            }
        }
    }

    private int below(int bound) {
        seed = seed * 6364136223846793005L + 1442695040888963407L;
        return (int) ((seed >>> 33) % bound);
    }

    /** A number from 0 to most, now and then one beyond. */
    private int near(int most) {
        return below(40) == 0 ? below(2) == 0 ? -1 : most + 1 : below(most + 1);
    }

    private void same(String call, Check.Call got, Check.Call want) {
        calls++;
        Check.due("call " + calls + ", " + call, Check.outcome(want), got);
    }

    private void modify(int number) {
        int a = near(5);
        int b = near(5);
        int c = near(9);
        int charge = near(Math.max(0, y.chargeCount() - 1));
        switch (below(number % 2 == 0 ? 9 : 13)) {
            case 0, 1, 2 -> same("setHardness", () -> x.setHardness(a, b, c), () -> y.setHardness(a, b, c));
            case 3, 4 -> same("addCharge", () -> x.addCharge(a, b, c), () -> y.addCharge(a, b, c));
            case 5 -> same("ignite", () -> x.ignite(charge), () -> y.ignite(charge));
            case 6 -> price();
            case 7, 9 -> sell();
            case 8, 10 -> same("dig", () -> x.dig(a, b), () -> y.dig(a, b));
            case 11 -> same("removeCharge", () -> x.removeCharge(charge), () -> y.removeCharge(charge));
            default -> same("addCharge", () -> x.addCharge(a, b, 8), () -> y.addCharge(a, b, 8));
        }
    }

    private void price() {
        int length = near(10);
        int price = near(99);
        same("setPrice", () -> x.setPrice(length, price), () -> y.setPrice(length, price));
    }

    private void sell() {
        int length = below(3) == 0 ? near(30) : near(4);
        same("sell", () -> x.sell(length), () -> y.sell(length));
    }

    private void undoAndSnapshot() {
        switch (below(8)) {
            case 0 -> same("save", x::save, y::save);
            case 1 -> same("restore", x::restore, y::restore);
            default -> same("undo", x::undo, y::undo);
        }
    }

    private void text() {
        String text = drawText();
        for (char c : text.toCharArray()) {
            same("type", () -> x.type(c), () -> y.type(c));
        }
        same("execute \"" + text + "\"", x::execute, y::execute);
        same("errorPosition", x::errorPosition, y::errorPosition);
        same("failedCommand", x::failedCommand, y::failedCommand);
    }

    private String drawText() {
        StringBuilder text = new StringBuilder();
        int commands = 1 + below(5);
        for (int i = 0; i < commands; i++) {
            text.append(i > 0 ? ";" : "").append(drawCommand());
        }
        if (below(3) == 0) {
            spoil(text);
        }
        return text.length() > 61 ? text.substring(0, 61) : text.toString();
    }

    private String drawCommand() {
        String place = " " + below(6) + " " + below(6);
        switch (below(8)) {
            case 0: return "rock" + place + " " + below(10);
            case 1: return "charge" + place + " " + below(10);
            case 2: return "remove " + below(2);
            case 3: return "ignite " + below(2);
            case 4: return "dig" + place;
            case 5: return "price " + (1 + below(10)) + " " + below(100);
            case 6: return "sell " + below(32);
            default: return "sell 0" + below(3);
        }
    }

    private void spoil(StringBuilder text) {
        int place = below(text.length());
        String signs = " ;0159rcigdpsxeo~";
        char sign = signs.charAt(below(signs.length()));
        switch (below(4)) {
            case 0 -> text.setCharAt(place, sign);
            case 1 -> text.insert(place, sign);
            case 2 -> text.deleteCharAt(place);
            default -> text.setLength(place);
        }
    }

    private void ask() {
        switch (below(4)) {
            case 0 -> askWall();
            case 1 -> askCharges();
            case 2 -> askWays();
            default -> askStone();
        }
    }

    private void askWall() {
        int a = near(5);
        int b = near(5);
        int h = near(9);
        switch (below(8)) {
            case 0 -> same("hardnessOf", () -> x.hardnessOf(a, b), () -> y.hardnessOf(a, b));
            case 1 -> same("isOpen", () -> x.isOpen(a, b), () -> y.isOpen(a, b));
            case 2 -> same("openCount", x::openCount, y::openCount);
            case 3 -> same("veinCount", () -> x.veinCount(h), () -> y.veinCount(h));
            case 4 -> same("veinSize", () -> x.veinSize(a, b), () -> y.veinSize(a, b));
            case 5 -> same("meanHardness", x::meanHardness, y::meanHardness);
            case 6 -> same("openShare", x::openShare, y::openShare);
            default -> showRow(a);
        }
    }

    private void showRow(int row) {
        same("writeRow", () -> x.writeRow(row), () -> y.writeRow(row));
        for (int i = 0; i < 6; i++) {
            askLine(i);
        }
    }

    private void askLine(int index) {
        same("lineAt(" + index + ")", () -> x.lineAt(index), () -> y.lineAt(index));
    }

    private void askCharges() {
        int k = near(Math.max(0, y.chargeCount() - 1));
        switch (below(10)) {
            case 0 -> same("chargeCount", x::chargeCount, y::chargeCount);
            case 1 -> same("chargeRow", () -> x.chargeRow(k), () -> y.charge(k, 0));
            case 2 -> same("chargeColumn", () -> x.chargeColumn(k), () -> y.charge(k, 1));
            case 3 -> same("chargeStrength", () -> x.chargeStrength(k), () -> y.charge(k, 2));
            case 4 -> same("chainOf", () -> x.chainOf(k), () -> y.chainOf(k));
            case 5 -> same("chainByRounds", () -> x.chainByRounds(k), () -> y.chainOf(k));
            case 6 -> same("opensOf", () -> x.opensOf(k), () -> y.opensOf(k));
            case 7 -> same("writeCharge", () -> x.writeCharge(k), () -> y.writeCharge(k));
            case 8 -> askLine(near(7));
            default -> same("bestCharge", x::bestCharge, y::bestCharge);
        }
    }

    private void askWays() {
        switch (below(7)) {
            case 0 -> same("tunnelCost", x::tunnelCost, y::tunnelCost);
            case 1 -> same("tunnelByRounds", x::tunnelByRounds, y::tunnelCost);
            case 2 -> same("mostSlabs", x::mostSlabs, y::mostSlabs);
            case 3 -> same("slabsByCells", x::slabsByCells, y::mostSlabs);
            case 4 -> same("largestBlock", x::largestBlock, y::largestBlock);
            case 5 -> same("blockByHeights", x::blockByHeights, y::largestBlock);
            default -> same("isConsistent", x::isConsistent, () -> true);
        }
    }

    private void askStone() {
        int length = near(30);
        switch (below(8)) {
            case 0 -> same("priceOf", () -> x.priceOf(length), () -> y.priceOf(length));
            case 1 -> same("bestCut", () -> x.bestCut(length), () -> y.bestCut(length));
            case 2 -> same("bestCutByTrial", () -> x.bestCutByTrial(length), () -> y.bestCut(length));
            case 3 -> same("fewestPieces", () -> x.fewestPieces(length), () -> y.fewestPieces(length));
            case 4 -> same("stone", x::stone, y::stone);
            case 5 -> same("quarried", x::quarried, y::quarried);
            case 6 -> same("sold", x::sold, y::sold);
            default -> same("coins", x::coins, y::coins);
        }
    }
}
