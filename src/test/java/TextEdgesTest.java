import java.util.NoSuchElementException;
import java.util.Set;

/** Promises 42 to 45 at their edges: each test names the sentence that it tests. */
final class TextEdgesTest {
    private static final Class<IllegalArgumentException> ARGUMENT = IllegalArgumentException.class;
    private static final Class<IllegalStateException> STATE = IllegalStateException.class;
    private static final Class<NoSuchElementException> NONE = NoSuchElementException.class;

    /** Sixty characters, and the lengths at which a text that begins like it may end. */
    private static final String LONG_TEXT = "rock 5 5 1;charge 5 5 2;ignite 0;price 10 9;remove 0;dig 5 0";
    private static final Set<Integer> COMPLETE = Set.of(10, 23, 32, 43, 52, 60);
    private static final String EIGHT_COMMANDS = "price 1 1;dig 0 0;sell 1;sell 1;sell 1;sell 1;sell 1;sell 1";

    public static void main(String[] args) {
        run();
        Sentence.allNamed(42, 45);
        Check.end();
    }

    static void run() {
        type();
        execute();
        executeRefuses();
        errorPosition();
        failedCommand();
    }

    // Promise 42.

    private static void type() {
        Sentence.test(42, "- `character`: the character", TextEdgesTest::eachCharacter);
        Sentence.test(42, "Appends a character to the text buffer.", () -> {
            StoneQuarry x = Quarries.with(new StoneQuarry(), "price 1 2");
            x.type('3');
            Check.due("execute", 1, x::execute);
            Check.due("the last character counts", 23, () -> x.priceOf(1));
        });
        Sentence.test(42, "Returns the number of characters in the buffer.", () -> {
            StoneQuarry x = new StoneQuarry();
            for (int count = 1; count <= 60; count++) {
                Check.due("type", count, () -> x.type('a'));
            }
            Check.outcome(x::execute);
            Check.due("type into the emptied buffer", 1, () -> x.type('a'));
        });
        Sentence.test(42, "Throws `IllegalArgumentException` if the character is not from 32 to 126", () -> {
            for (int character : new int[] {31, 127, 0, 10, 128, 255, 256 + 32, 256 + 'r', 0xff11, 65535}) {
                Refusal.due("type(" + character + ")", ARGUMENT, Quarries::typing, x -> x.type((char) character));
                Refusal.due("type(" + character + ") at first", ARGUMENT, StoneQuarry::new,
                    x -> x.type((char) character));
            }
        });
        Sentence.test(42, "Throws `IllegalStateException` if the buffer contains 60 characters", () -> {
            for (char character : new char[] {32, 126, ';', '1'}) {
                Refusal.due("type(" + (int) character + ") behind 60", STATE, Quarries::fullBuffer,
                    x -> x.type(character));
            }
            StoneQuarry x = Quarries.with(new StoneQuarry(), LONG_TEXT.substring(0, 59));
            Check.due("the sixtieth character", 60, () -> x.type('0'));
            Check.fails("one more", STATE, () -> x.type('0'));
        });
    }

    private static void eachCharacter() {
        StoneQuarry x = new StoneQuarry();
        for (int character = 32; character <= 126; character++) {
            char sign = (char) character;
            int place = (character - 32) % 60 + 1;
            Check.due("type(" + character + ")", place, () -> x.type(sign));
            if (place == 60) {
                Check.outcome(x::execute);
            }
        }
        StoneQuarry y = new StoneQuarry();
        Check.due("type(32) first", 1, () -> y.type((char) 32));
        Check.due("type(126)", 2, () -> y.type((char) 126));
    }

    // Promise 43.

    private static void execute() {
        Sentence.test(43, "Executes the text in the buffer, which is empty afterwards.", TextEdgesTest::emptyAfterwards);
        Sentence.test(43, "The commands are executed in order, all of them or none: if a command fails, the effects of the commands before it are taken back.",
            TextEdgesTest::allOrNone);
        Sentence.test(43, "A command fails if the method for it would throw an exception.", () -> {
            failingRocksAndCharges();
            failingBlastsAndDigs();
            failingSales();
        });
        Sentence.test(43, "Returns the number of commands.", () -> {
            Check.due("one", 1, () -> Check.execute(new StoneQuarry(), "price 1 1"));
            Check.due("two", 2, () -> Check.execute(new StoneQuarry(), "price 1 1;price 1 1"));
            Check.due("eight in 59 characters", 8, () -> Check.execute(withOneCoin(), EIGHT_COMMANDS));
            Check.due("five in 60 characters", 5, () -> Check.execute(Quarries.busy(), Quarries.FULL_TEXT));
            Check.due("the busy quarry's full buffer", 5, Quarries.fullBuffer()::execute);
        });
    }

    /** Enough stone for six bars and rock of hardness 1 at the upper left, which a single coin pays. */
    private static StoneQuarry withOneCoin() {
        StoneQuarry x = Check.wall("1.....", "555555", "555555", "555555", "555555", "555555");
        x.addCharge(5, 5, 5);
        x.ignite(0);
        x.setPrice(1, 1);
        x.sell(1);
        return x;
    }

    private static void emptyAfterwards() {
        StoneQuarry x = new StoneQuarry();
        Check.due("a good text", 1, () -> Check.execute(x, "price 1 1"));
        Check.fails("nothing is left of it", ARGUMENT, x::execute);
        Check.due("its error position", 0, x::errorPosition);
        Check.fails("a malformed text", ARGUMENT, () -> Check.execute(x, "price 1 1;"));
        Check.due("a text behind it", 1, () -> Check.execute(x, "price 1 2"));
        Check.fails("a failing text", STATE, () -> Check.execute(x, "sell 1"));
        Check.due("a text behind it", 1, () -> Check.execute(x, "price 1 3"));
        Check.fails("60 characters", ARGUMENT, () -> Check.execute(x, "~".repeat(60)));
        Check.due("60 characters behind them", 5, () -> Check.execute(x, Quarries.FULL_TEXT));
        Check.fails("60 characters less the last one", ARGUMENT, () -> Check.execute(x, Quarries.FULL_TEXT.substring(0, 59)));
        Check.fails("the last one alone, not put behind the others", ARGUMENT, () -> Check.execute(x, "2"));
        Check.due("its error position", 0, x::errorPosition);
    }

    private static void allOrNone() {
        StoneQuarry x = new StoneQuarry();
        Check.due("in order", 3, () -> Check.execute(x, "rock 0 0 1;rock 0 0 9;rock 0 0 2"));
        Check.due("the last one counts", 2, () -> x.hardnessOf(0, 0));
        Check.due("each sees the ones before", 4, () -> Check.execute(x, "charge 0 0 2;ignite 0;charge 5 5 1;remove 0"));
        Check.due("isOpen(0, 0)", true, () -> x.isOpen(0, 0));
        String last = ";sell 0";
        Refusal.ofText("rock 5 1 9" + last, STATE, Quarries::busy);
        Refusal.ofText("charge 5 1 9" + last, STATE, Quarries::busy);
        Refusal.ofText("remove 1" + last, STATE, Quarries::busy);
        Refusal.ofText("ignite 1" + last, STATE, Quarries::busy);
        Refusal.ofText("dig 5 1" + last, STATE, Quarries::busy);
        Refusal.ofText("price 1 99" + last, STATE, Quarries::busy);
        Refusal.ofText("sell 30" + last, STATE, Quarries::busy);
        Refusal.ofText("sell 1;rock 5 1 9;dig 5 1;ignite 1;remove 0;price 7 7;sell 0", STATE, Quarries::busy);
        Refusal.ofText("sell 0;sell 1", STATE, Quarries::busy);
        StoneQuarry y = Quarries.busy();
        Check.due("with a last one that is fine", 7,
            () -> Check.execute(y, "sell 1;rock 5 1 9;dig 5 1;ignite 1;remove 0;price 7 7;sell 1"));
    }

    private static void allFine(Refusal.Maker maker, String... texts) {
        for (String text : texts) {
            Check.due("execute of \"" + text + "\"", 1, () -> Check.execute(maker.make(), text));
        }
    }

    private static void allFail(Refusal.Maker maker, String... texts) {
        for (String text : texts) {
            Refusal.ofText(text, STATE, maker);
        }
    }

    private static void failingRocksAndCharges() {
        allFine(Quarries::busy, "rock 0 5 1", "rock 5 5 9", "rock 5 1 1");
        allFail(Quarries::busy, "rock 6 1 1", "rock 9 1 1", "rock 0 6 1", "rock 5 9 1", "rock 5 5 0", "rock 0 0 1",
            "rock 5 0 9");
        allFine(Quarries::busy, "charge 0 5 1", "charge 5 1 9");
        allFail(Quarries::busy, "charge 6 1 1", "charge 0 6 1", "charge 5 1 0", "charge 0 0 1", "charge 5 5 1",
            "charge 1 5 9");
        allFail(Quarries::sixCharges, "charge 0 0 1");
    }

    private static void failingBlastsAndDigs() {
        allFine(Quarries::busy, "remove 0", "remove 2", "ignite 0", "ignite 2");
        allFail(Quarries::busy, "remove 3", "remove 9", "ignite 3", "ignite 9");
        allFine(Quarries::sixCharges, "remove 5", "ignite 5");
        allFail(Quarries::sixCharges, "remove 6", "ignite 6");
        allFail(StoneQuarry::new, "remove 0", "ignite 0");
        allFine(Quarries::busy, "dig 5 1", "dig 0 5");
        allFail(Quarries::busy, "dig 6 0", "dig 0 6", "dig 0 0", "dig 5 5", "dig 5 2");
        allFail(StoneQuarry::new, "dig 0 0");
        allFine(TextEdgesTest::withOneCoin, "dig 0 0");
        allFail(TextEdgesTest::withOneCoin, "dig 1 0");
    }

    private static void failingSales() {
        allFine(StoneQuarry::new, "price 1 0", "price 01 00", "price 10 99", "price 9 9");
        allFail(Quarries::busy, "price 0 1", "price 00 1", "price 11 1", "price 99 99");
        allFine(Check::rich, "sell 1", "sell 01", "sell 30");
        allFail(Quarries::busy, "sell 0", "sell 00", "sell 31", "sell 99");
        allFail(StoneQuarry::new, "sell 1");
        Check.due("all the stone", 2, () -> Check.execute(Check.rich(), "sell 30;sell 15"));
        allFail(Check::rich, "sell 30;sell 16");
    }

    private static void executeRefuses() {
        Sentence.test(43, "Throws `IllegalArgumentException` if the text is malformed; its error position is stored",
            TextEdgesTest::malformedTexts);
        Sentence.test(43, "Throws `IllegalStateException` if a command fails; its index is stored",
            TextEdgesTest::failingCommands);
    }

    private static void malformed(int position, String text) {
        Refusal.ofText(text, ARGUMENT, Quarries::busy);
        Refusal.ofText(text, ARGUMENT, Quarries::worked);
        StoneQuarry x = Quarries.busy();
        Check.outcome(() -> Check.execute(x, text));
        Check.due("errorPosition of \"" + text + "\"", position, x::errorPosition);
        Check.due("failedCommand behind \"" + text + "\"", 1, x::failedCommand);
    }

    private static void malformedTexts() {
        malformed(0, "");
        malformed(0, ";");
        malformed(0, "~");
        malformed(1, "p");
        malformed(9, "price 1 1 ");
        malformed(10, "price 1 1;");
        malformed(10, "price 1 1;;price 1 2");
        malformed(10, "rock 5 1 10");
        malformed(11, "price 10 990");
        malformed(59, LONG_TEXT.substring(0, 59));
        malformed(59, LONG_TEXT.substring(0, 59) + "x");
        malformed(60, "price 10 9;price 10 9;price 10 9;price 10 9;price 1 9;price ");
        malformed(60, "sell 1;".repeat(8) + "sell");
        malformed(60, "price 10 99;".repeat(5));
    }

    private static void failingCommands() {
        Refusal.ofText("sell 0", STATE, Quarries::worked);
        Refusal.ofText("sell 1;rock 5 1 9;dig 5 1;ignite 1;remove 0;price 7 7;sell 0", STATE, Quarries::worked);
        Refusal.ofText("price 1 1;sell 1", STATE, StoneQuarry::new);
        String[] commands = EIGHT_COMMANDS.split(";");
        for (int index = 0; index < commands.length; index++) {
            String good = commands[index];
            commands[index] = good.startsWith("sell") ? "sell 0" : good.startsWith("dig") ? "dig 5 5" : "price 0 1";
            StoneQuarry x = withOneCoin();
            String text = String.join(";", commands);
            Check.fails("execute of \"" + text + "\"", STATE, () -> Check.execute(x, text));
            Check.due("failedCommand of \"" + text + "\"", index, x::failedCommand);
            Check.fails("errorPosition of \"" + text + "\"", NONE, x::errorPosition);
            commands[index] = good;
        }
        StoneQuarry both = withOneCoin();
        Check.fails("two failures", STATE, () -> Check.execute(both, "sell 1;sell 0;sell 1;sell 0"));
        Check.due("the first one is stored", 1, both::failedCommand);
    }

    // Promise 44.

    private static void errorPosition() {
        Sentence.test(44, "Returns the error position of the last malformed text.", () -> {
            spoiltAtEachPlace();
            endedAtEachPlace();
            lastMalformed();
        });
        Sentence.test(44, "Throws `NoSuchElementException` if no text was malformed so far", () -> {
            Refusal.due("errorPosition at first", NONE, StoneQuarry::new, StoneQuarry::errorPosition);
            Refusal.due("errorPosition behind a good and a failing text", NONE, TextEdgesTest::onceFailed,
                StoneQuarry::errorPosition);
            Refusal.due("errorPosition before execute", NONE, () -> Quarries.with(Check.rich(), "~"),
                StoneQuarry::errorPosition);
        });
    }

    private static StoneQuarry onceFailed() {
        StoneQuarry x = Quarries.worked();
        Check.execute(x, "price 1 1");
        Check.outcome(() -> Check.execute(x, "sell 0"));
        return Quarries.with(x, "price 2 2");
    }

    private static StoneQuarry onceMalformed() {
        StoneQuarry x = Quarries.worked();
        Check.execute(x, "price 1 1");
        Check.outcome(() -> Check.execute(x, "sell 0;"));
        return Quarries.with(x, "price 2 2");
    }

    private static void spoiltAtEachPlace() {
        for (int place = 0; place < 60; place++) {
            String text = LONG_TEXT.substring(0, place) + "~" + LONG_TEXT.substring(place + 1);
            StoneQuarry x = new StoneQuarry();
            Check.fails("execute of \"" + text + "\"", ARGUMENT, () -> Check.execute(x, text));
            Check.due("errorPosition of \"" + text + "\"", place, x::errorPosition);
        }
    }

    private static void endedAtEachPlace() {
        for (int length = 0; length <= 60; length++) {
            String text = LONG_TEXT.substring(0, length);
            boolean complete = COMPLETE.contains(length);
            StoneQuarry x = new StoneQuarry();
            String got = Check.outcome(() -> Check.execute(x, text));
            Check.due("malformed: \"" + text + "\"", !complete, () -> got.equals("throws.IllegalArgumentException"));
            Check.due("errorPosition of \"" + text + "\"", complete ? "throws.NoSuchElementException" : length,
                () -> Check.outcome(x::errorPosition));
        }
    }

    private static void lastMalformed() {
        StoneQuarry x = new StoneQuarry();
        Check.outcome(() -> Check.execute(x, "price "));
        Check.due("the first", 6, x::errorPosition);
        Check.outcome(() -> Check.execute(x, ""));
        Check.due("the second", 0, x::errorPosition);
        Check.outcome(() -> Check.execute(x, "price 1 1;~"));
        Check.due("the third", 10, x::errorPosition);
        Check.execute(x, "price 1 1");
        Check.due("behind a good one", 10, x::errorPosition);
        Check.outcome(() -> Check.execute(x, "sell 1"));
        Check.due("behind a failing one", 10, x::errorPosition);
    }

    // Promise 45.

    private static void failedCommand() {
        Sentence.test(45, "Returns the index of the command that failed in the last text that had one.", () -> {
            StoneQuarry x = new StoneQuarry();
            Check.outcome(() -> Check.execute(x, "price 1 1;sell 1"));
            Check.due("the first", 1, x::failedCommand);
            Check.outcome(() -> Check.execute(x, "sell 1"));
            Check.due("the second", 0, x::failedCommand);
            Check.outcome(() -> Check.execute(x, "price 1 1;price 1 1;sell 1"));
            Check.execute(x, "price 1 1");
            Check.due("behind a good one", 2, x::failedCommand);
            Check.outcome(() -> Check.execute(x, "sell 1;"));
            Check.due("behind a malformed one", 2, x::failedCommand);
        });
        Sentence.test(45, "Returns the index of the command, from 0.", () -> {
            StoneQuarry x = withOneCoin();
            Check.outcome(() -> Check.execute(x, "sell 0;sell 1"));
            Check.due("the first of two", 0, x::failedCommand);
            Check.outcome(() -> Check.execute(x, EIGHT_COMMANDS.substring(0, 58) + "0"));
            Check.due("the last of eight", 7, x::failedCommand);
        });
        Sentence.test(45, "Throws `NoSuchElementException` if no command failed so far", () -> {
            Refusal.due("failedCommand at first", NONE, StoneQuarry::new, StoneQuarry::failedCommand);
            Refusal.due("failedCommand behind a good and a malformed text", NONE, TextEdgesTest::onceMalformed,
                StoneQuarry::failedCommand);
            Refusal.due("failedCommand behind a refused call", NONE, () -> {
                StoneQuarry x = new StoneQuarry();
                Check.outcome(() -> x.sell(0));
                return x;
            }, StoneQuarry::failedCommand);
        });
    }
}
