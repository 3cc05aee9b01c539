import java.io.IOException;
import java.lang.reflect.Method;
import java.lang.reflect.Modifier;
import java.nio.file.Files;
import java.nio.file.Path;

/** README.md: its examples answer what it says, and its tables hold each call of the face. */
final class UseTest {
    private static final Path README = Path.of("README.md");

    private final String page;
    private final StoneQuarry quarry = new StoneQuarry();

    private UseTest(String page) {
        this.page = page;
    }

    public static void main(String[] args) throws IOException {
        UseTest test = new UseTest(Files.readString(README));
        test.calls();
        test.text();
        test.tables();
        Check.end();
    }

    private void calls() {
        example("setPrice(10, 30)", "answers 0", () -> quarry.setPrice(10, 30));
        example("addCharge(0, 0, 9)", "answers 0", () -> quarry.addCharge(0, 0, 9));
        example("ignite(0)", "answers 15", () -> quarry.ignite(0));
        example("sell(30)", "answers 90", () -> quarry.sell(30));
        example("dig(5, 0)", "answers 85", () -> quarry.dig(5, 0));
        example("undo()", "answers 4", () -> quarry.undo());
        example("sell(31)", "throws IllegalArgumentException", () -> quarry.sell(31));
    }

    private void text() {
        String commands = "rock 5 0 3;dig 5 0";
        stands("\"" + commands + "\"");
        Check.type(quarry, commands);
        example("execute()", "answers 2", () -> quarry.execute());
        Check.due("the coins after the text", 87, () -> quarry.coins());
    }

    private void tables() {
        for (Method method : StoneQuarry.class.getDeclaredMethods()) {
            if (Modifier.isPublic(method.getModifiers())) {
                stands("`" + method.getName() + "(");
            }
        }
    }

    /** Compares the answer with the words behind the call on the page. */
    private void example(String call, String words, Check.Call made) {
        String line = "    quarry." + call + ";";
        int place = page.indexOf(line);
        String remark = place < 0 ? "" : page.substring(place + line.length()).split("\n")[0].strip();
        if (!remark.matches("// " + words + "[,:].*")) {
            Check.report(README + " does not say that " + call + " " + words);
        }
        Check.due(call, words.replace("answers ", "").replace("throws ", "throws."), made);
    }

    private void stands(String words) {
        if (!page.contains(words)) {
            Check.report(README + " does not hold " + words);
        }
    }
}
