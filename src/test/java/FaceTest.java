import java.lang.reflect.Constructor;
import java.lang.reflect.Field;
import java.lang.reflect.Method;
import java.lang.reflect.Modifier;
import java.util.Arrays;
import java.util.Set;
import java.util.TreeSet;
import java.util.stream.Collectors;

/** The public face: just the document's members, with their exceptions in the documented order. */
final class FaceTest {
    private static final String[] FACE = {
        "int setHardness(int, int, int) throws IllegalArgumentException, IllegalStateException",
        "long dig(int, int) throws IllegalArgumentException, IllegalStateException, UnsupportedOperationException",
        "int hardnessOf(int, int) throws IllegalArgumentException, IllegalStateException",
        "boolean isOpen(int, int) throws IllegalArgumentException",
        "int openCount()",
        "int veinCount(int) throws IllegalArgumentException",
        "int veinSize(int, int) throws IllegalArgumentException, IllegalStateException",
        "int addCharge(int, int, int) throws IllegalArgumentException, IllegalStateException",
        "int removeCharge(int) throws IndexOutOfBoundsException",
        "int ignite(int) throws IndexOutOfBoundsException",
        "int chargeCount()",
        "int chargeRow(int) throws IndexOutOfBoundsException",
        "int chargeColumn(int) throws IndexOutOfBoundsException",
        "int chargeStrength(int) throws IndexOutOfBoundsException",
        "int chainOf(int) throws IndexOutOfBoundsException",
        "int chainByRounds(int) throws IndexOutOfBoundsException",
        "int opensOf(int) throws IndexOutOfBoundsException",
        "int bestCharge() throws NoSuchElementException",
        "int tunnelCost()",
        "int tunnelByRounds()",
        "int mostSlabs()",
        "int slabsByCells()",
        "int largestBlock()",
        "int blockByHeights()",
        "int setPrice(int, int) throws IllegalArgumentException",
        "int priceOf(int) throws IllegalArgumentException",
        "int bestCut(int) throws IllegalArgumentException",
        "int bestCutByTrial(int) throws IllegalArgumentException",
        "int fewestPieces(int) throws IllegalArgumentException",
        "int sell(int) throws IllegalArgumentException, UnsupportedOperationException",
        "int stone()",
        "int quarried()",
        "int sold()",
        "long coins()",
        "double meanHardness() throws ArithmeticException",
        "float openShare()",
        "int writeRow(int) throws IllegalArgumentException",
        "int writeCharge(int) throws IndexOutOfBoundsException",
        "char lineAt(int) throws IndexOutOfBoundsException",
        "boolean isConsistent()",
        "int type(char) throws IllegalArgumentException, IllegalStateException",
        "int execute() throws IllegalArgumentException, IllegalStateException",
        "int errorPosition() throws NoSuchElementException",
        "int failedCommand() throws NoSuchElementException",
        "int undo() throws IllegalStateException",
        "int save()",
        "int restore() throws IllegalStateException",
    };

    public static void main(String[] args) {
        Set<String> publicNames = new TreeSet<>();
        Set<String> got = new TreeSet<>();
        for (Method method : StoneQuarry.class.getDeclaredMethods()) {
            if (!Modifier.isPrivate(method.getModifiers()) && !method.isSynthetic()) {
                got.add(faceOf(method));
                publicNames.add(method.getName());
            }
        }
        Check.due("the face", new TreeSet<>(Arrays.asList(FACE)).toString(), () -> got);
        for (Method method : StoneQuarry.class.getDeclaredMethods()) {
            if (Modifier.isPrivate(method.getModifiers()) && publicNames.contains(method.getName())) {
                Check.report("a private method is named " + method.getName());
            }
        }
        for (Field field : StoneQuarry.class.getDeclaredFields()) {
            if (!Modifier.isPrivate(field.getModifiers())) {
                Check.report("a field is not private: " + field.getName());
            }
        }
        Constructor<?>[] constructors = StoneQuarry.class.getDeclaredConstructors();
        Check.due("the constructors", "[public StoneQuarry()]", () -> Arrays.toString(constructors));
        Check.due("the class's modifiers", "public final", () -> Modifier.toString(StoneQuarry.class.getModifiers()));
        Check.end();
    }

    private static String faceOf(Method method) {
        String modifiers = Modifier.toString(method.getModifiers());
        String parameters = names(method.getParameterTypes());
        String exceptions = names(method.getExceptionTypes());
        return (modifiers.equals("public") ? "" : modifiers + " ") + method.getReturnType() + " " + method.getName()
                + "(" + parameters + ")" + (exceptions.isEmpty() ? "" : " throws " + exceptions);
    }

    private static String names(Class<?>[] types) {
        return Arrays.stream(types).map(Class::getSimpleName).collect(Collectors.joining(", "));
    }
}
