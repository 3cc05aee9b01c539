import java.util.NoSuchElementException;

/** Promises 42 to 45: the text buffer, its commands, and the places of errors and failures. */
final class TextTest {
    private static final Class<IllegalArgumentException> ARGUMENT = IllegalArgumentException.class;
    private static final Class<IllegalStateException> STATE = IllegalStateException.class;
    private static final Class<NoSuchElementException> NONE = NoSuchElementException.class;

    public static void main(String[] args) {
        type();
        commands();
        malformed();
        longTexts();
        failing();
        failuresOfEachCommand();
        noneSoFar();
        positionsAreNotState();
        Check.end();
    }

    private static void type() {
        StoneQuarry x = new StoneQuarry();
        Check.fails("type(31)", ARGUMENT, () -> x.type((char) 31));
        Check.fails("type(127)", ARGUMENT, () -> x.type((char) 127));
        Check.fails("type(0)", ARGUMENT, () -> x.type((char) 0));
        Check.fails("type(65535)", ARGUMENT, () -> x.type((char) 65535));
        Check.due("type(32)", 1, () -> x.type((char) 32));
        Check.due("type(126)", 2, () -> x.type((char) 126));
        for (int n = 3; n <= 60; n++) {
            Check.due("type", n, () -> x.type('a'));
        }
        Check.fails("type into a full buffer", STATE, () -> x.type('a'));
        Check.fails("type a wrong character into a full buffer", ARGUMENT, () -> x.type((char) 7));
        Check.fails("execute", ARGUMENT, x::execute);
        Check.due("the buffer is empty afterwards", 1, () -> x.type('a'));
        Check.fails("execute", ARGUMENT, x::execute);
        Check.due("empty again", 1, () -> x.type('b'));
        Check.fails("typing is no modification", STATE, x::undo);
    }

    private static void commands() {
        StoneQuarry x = new StoneQuarry();
        Check.due("rock", 1, () -> Check.execute(x, "rock 1 2 9"));
        Check.due("hardnessOf(1, 2)", 9, () -> x.hardnessOf(1, 2));
        Check.due("charge", 1, () -> Check.execute(x, "charge 3 4 8"));
        Check.due("its row", 3, () -> x.chargeRow(0));
        Check.due("its column", 4, () -> x.chargeColumn(0));
        Check.due("its strength", 8, () -> x.chargeStrength(0));
        Check.due("price", 2, () -> Check.execute(x, "price 10 99;price 03 7"));
        Check.due("priceOf(10)", 99, () -> x.priceOf(10));
        Check.due("priceOf(3)", 7, () -> x.priceOf(3));
        Check.due("more charges", 2, () -> Check.execute(x, "charge 0 0 6;charge 5 5 2"));
        Check.due("remove", 1, () -> Check.execute(x, "remove 2"));
        Check.due("two are left", 2, x::chargeCount);
        Check.due("ignite", 1, () -> Check.execute(x, "ignite 1"));
        Check.due("three cells are open", 3, x::openCount);
        Check.due("sell", 2, () -> Check.execute(x, "sell 3;sell 10"));
        Check.due("coins", 106L, x::coins);
        Check.due("dig", 2, () -> Check.execute(x, "dig 5 0;dig 0 2"));
        Check.due("coins after digging", 96L, x::coins);
        Check.due("isOpen(0, 2)", true, () -> x.isOpen(0, 2));
        Check.due("the text is one modification", 7, x::undo);
        Check.due("isOpen(5, 0)", false, () -> x.isOpen(5, 0));
        Check.due("the buffer was emptied", 1, () -> x.type('d'));
        Check.fails("no text was malformed", NONE, x::errorPosition);
        Check.fails("no command failed", NONE, x::failedCommand);
    }

    private static void wrongAt(int position, String text) {
        StoneQuarry x = new StoneQuarry();
        Check.type(x, text);
        Check.fails("execute \"" + text + "\"", ARGUMENT, x::execute);
        Check.due("errorPosition of \"" + text + "\"", position, x::errorPosition);
        Check.fails("failedCommand of \"" + text + "\"", NONE, x::failedCommand);
        Check.due("the buffer after \"" + text + "\"", 1, () -> x.type('x'));
        Check.fails("undo after \"" + text + "\"", STATE, x::undo);
        Check.due("row 0 after \"" + text + "\"", "555555", () -> Check.lineOf(x, x.writeRow(0)));
    }

    private static void malformed() {
        wrongAt(0, "");
        wrongAt(0, " rock 0 0 1");
        wrongAt(0, "x");
        wrongAt(0, "ROCK 0 0 1");
        wrongAt(0, ";");
        wrongAt(1, "r");
        wrongAt(1, "rx");
        wrongAt(2, "ro");
        wrongAt(2, "re");
        wrongAt(2, "reck");
        wrongAt(2, "romove 1");
        wrongAt(4, "rock");
        wrongAt(4, "rockx");
        wrongAt(4, "rock;");
        wrongAt(4, "charm");
        wrongAt(5, "ignit");
        wrongAt(5, "rock ");
        wrongAt(5, "rock  0 0 1");
        wrongAt(5, "rock x");
        wrongAt(6, "rock 0");
        wrongAt(6, "rock 00 0 1");
        wrongAt(9, "rock 0 0 ");
        wrongAt(10, "rock 0 0 12");
        wrongAt(10, "rock 0 0 1 ");
        wrongAt(10, "rock 0 0 1 1");
        wrongAt(11, "rock 0 0 1;");
        wrongAt(11, "rock 0 0 1; rock 0 0 2");
        wrongAt(11, "rock 0 0 1;;");
        wrongAt(12, "rock 0 0 1;d");
        wrongAt(14, "rock 0 0 1;digx");
        wrongAt(8, "ignite 01");
        wrongAt(8, "remove 00");
        wrongAt(8, "charge 00 0 1");
        wrongAt(10, "charge 0 00 1");
        wrongAt(12, "charge 0 0 12");
        wrongAt(5, "dig 00 0");
        wrongAt(8, "remove 1 1");
        wrongAt(5, "sell x");
        wrongAt(5, "sell -1");
        wrongAt(7, "sell 123");
        wrongAt(6, "sell 1.5");
        wrongAt(7, "sell 12 1");
        wrongAt(8, "price 12");
        wrongAt(8, "price 123");
        wrongAt(9, "price 10 ");
        wrongAt(11, "price 10 123");
        wrongAt(11, "price 10 12x");
        wrongAt(10, "price 10 1x");
        wrongAt(5, "dig 1");
        wrongAt(7, "dig 1 23");
        wrongAt(1, "c");
        wrongAt(1, "d");
        wrongAt(1, "ixnite");
        wrongAt(1, "s1");
        wrongAt(3, "prize 1 1");
    }

    private static void longTexts() {
        StoneQuarry x = Check.rich();
        Check.due("eight commands", 8, () -> Check.execute(x, "sell 1;sell 1;sell 1;sell 1;sell 1;sell 1;sell 1;sell 01"));
        Check.due("stone", 37, x::stone);
        wrongAt(60, "sell 1;sell 1;sell 1;sell 1;sell 1;sell 1;sell 1;sell 1;sell");
        wrongAt(60, "sell 1;sell 1;sell 1;sell 1;sell 1;sell 1;sell 12;price 1 1;");
        wrongAt(59, "sell 1;sell 1;sell 1;sell 1;sell 1;sell 1;sell 12;price 1 1x");
        Check.due("sixty characters", 8,
            () -> Check.execute(x, "sell 1;sell 1;sell 1;sell 1;sell 01;sell 01;dig 5 0;sell 010".substring(0, 59)));
    }

    private static void failsAt(StoneQuarry x, int index, String text) {
        Check.type(x, text);
        Check.fails("execute \"" + text + "\"", STATE, x::execute);
        Check.due("failedCommand of \"" + text + "\"", index, x::failedCommand);
        Check.due("the buffer after \"" + text + "\"", 1, () -> x.type('x'));
        Check.fails("execute \"x\"", ARGUMENT, x::execute);
    }

    private static void failing() {
        StoneQuarry x = Check.rich();
        x.addCharge(5, 5, 6);
        failsAt(x, 3, "rock 5 0 1;price 10 1;sell 10;sell 0;dig 5 0");
        Check.due("hardness is taken back", 5, () -> x.hardnessOf(5, 0));
        Check.due("price is taken back", 30, () -> x.priceOf(10));
        Check.due("stone is taken back", 45, x::stone);
        Check.due("coins are taken back", 90L, x::coins);
        failsAt(x, 1, "ignite 0;ignite 0");
        Check.due("charge is taken back", 1, x::chargeCount);
        Check.due("cells are taken back", 15, x::openCount);
        failsAt(x, 2, "charge 5 0 1;remove 0;remove 1");
        Check.due("its place is taken back", 5, () -> x.chargeColumn(0));
        Check.due("its strength is taken back", 6, () -> x.chargeStrength(0));
        Check.due("sold is taken back", 30, x::sold);
        Check.due("quarried is taken back", 75, x::quarried);
        Check.due("failed texts are no modifications", 4, x::undo);
        Check.due("the last modification is undone", 0, x::chargeCount);
        Check.due("a malformed text fails nothing", 2, x::failedCommand);
        Check.type(x, "rock 9 9 9;x");
        Check.fails("malformed and failing", ARGUMENT, x::execute);
        Check.due("errorPosition", 11, x::errorPosition);
        Check.due("failedCommand is left", 2, x::failedCommand);
    }

    private static void failuresOfEachCommand() {
        StoneQuarry x = Check.rich();
        x.addCharge(5, 5, 6);
        failsAt(x, 0, "rock 6 0 1");
        failsAt(x, 0, "rock 0 6 1");
        failsAt(x, 0, "rock 5 5 0");
        failsAt(x, 0, "rock 0 0 1");
        failsAt(x, 0, "charge 9 0 1");
        failsAt(x, 0, "charge 5 4 0");
        failsAt(x, 0, "charge 0 0 1");
        failsAt(x, 0, "charge 5 5 1");
        failsAt(x, 0, "remove 1");
        failsAt(x, 0, "ignite 9");
        failsAt(x, 0, "dig 0 7");
        failsAt(x, 0, "dig 0 0");
        failsAt(x, 0, "dig 5 5");
        failsAt(x, 0, "dig 5 3");
        failsAt(x, 0, "price 0 1");
        failsAt(x, 0, "price 11 1");
        failsAt(x, 0, "sell 00");
        failsAt(x, 0, "sell 31");
        failsAt(x, 1, "sell 30;sell 16");
        failsAt(x, 0, "sell 99");
        StoneQuarry poor = new StoneQuarry();
        failsAt(poor, 1, "rock 0 0 1;dig 0 0");
        Check.due("hardness of the poor", 5, () -> poor.hardnessOf(0, 0));
        Check.fails("nothing to undo", STATE, poor::undo);
        failsAt(poor, 4, "charge 0 1 1;charge 0 2 1;charge 0 3 1;charge 0 4 1;sell 1");
        Check.due("chargeCount of the poor", 0, poor::chargeCount);
    }

    private static void noneSoFar() {
        StoneQuarry x = new StoneQuarry();
        Check.fails("errorPosition at first", NONE, x::errorPosition);
        Check.fails("failedCommand at first", NONE, x::failedCommand);
        Check.type(x, "sell 1");
        Check.fails("execute", STATE, x::execute);
        Check.fails("errorPosition after a failure", NONE, x::errorPosition);
        Check.due("failedCommand", 0, x::failedCommand);
        Check.fails("execute nothing", ARGUMENT, x::execute);
        Check.due("errorPosition", 0, x::errorPosition);
    }

    private static void positionsAreNotState() {
        StoneQuarry x = new StoneQuarry();
        x.save();
        x.setPrice(1, 1);
        Check.type(x, "price 1 1;sell 1");
        Check.fails("execute", STATE, x::execute);
        Check.type(x, "price");
        Check.fails("execute", ARGUMENT, x::execute);
        Check.type(x, "price 2 ");
        x.undo();
        x.restore();
        Check.due("errorPosition stays", 5, x::errorPosition);
        Check.due("failedCommand stays", 1, x::failedCommand);
        Check.due("the buffer stays", 9, () -> x.type('7'));
        Check.due("execute", 1, x::execute);
        Check.due("priceOf(2)", 7, () -> x.priceOf(2));
        Check.due("errorPosition stays after a good text", 5, x::errorPosition);
        Check.due("failedCommand stays after a good text", 1, x::failedCommand);
    }
}
