import java.lang.reflect.InvocationTargetException;
import java.lang.reflect.Method;
import java.lang.reflect.Modifier;
import java.util.Arrays;
import java.util.Comparator;

/**
 * The machine never throws: whatever the numbers and the state, a call throws only exceptions of its own clause,
 * of just that class, and made in the class's own code.
 */
final class MachineTest {
    private static final int RUNS = 300;
    private static final int CALLS = 500;
    private static final int[] FAR = {
        Integer.MIN_VALUE, Integer.MIN_VALUE + 1, -37, -7, -6, -1, 6, 7, 10, 11, 30, 31, 35, 36, 37, 60, 99, 100,
        127, 1 << 16, Integer.MAX_VALUE - 1, Integer.MAX_VALUE};
    private static final Method[] CALLED = faceInOrder();
    private static final String COMMANDS = "rock 1 1 9;charge 0 1 9;ignite 0;remove 0;dig 0 0;price 1 99;sell 1;";

    private final StoneQuarry quarry = new StoneQuarry();
    private long seed;
    private int typed;

    private MachineTest(long seed) {
        this.seed = seed;
    }

    public static void main(String[] args) {
        for (int run = 0; run < RUNS; run++) {
            MachineTest test = new MachineTest(6151L * run + 29);
            for (int call = 0; call < CALLS; call++) {
                test.call(CALLED[test.below(CALLED.length)]);
            }
        }
        Check.end();
    }

    /** In an order that does not depend on the machine's own. */
    private static Method[] faceInOrder() {
        return Arrays.stream(StoneQuarry.class.getDeclaredMethods())
            .filter(method -> Modifier.isPublic(method.getModifiers()))
            .sorted(Comparator.comparing(Method::getName)).toArray(Method[]::new);
    }

    private int below(int bound) {
        seed = seed * 6364136223846793005L + 1442695040888963407L;
        return (int) ((seed >>> 33) % bound);
    }

    private void call(Method method) {
        Object[] values = new Object[method.getParameterCount()];
        for (int i = 0; i < values.length; i++) {
            values[i] = method.getParameterTypes()[i] == char.class ? (Object) character() : (Object) number();
        }
        try {
            method.invoke(quarry, values);
        } catch (InvocationTargetException e) {
            judge(method.getName() + Arrays.toString(values), method, e.getCause());
        } catch (IllegalAccessException e) {
            Check.report(method.getName() + " can't be called");
        }
    }

    private static void judge(String call, Method method, Throwable thrown) {
        boolean named = Arrays.asList(method.getExceptionTypes()).contains(thrown.getClass());
        boolean own = thrown.getStackTrace()[0].getClassName().equals("StoneQuarry");
        if (!named || !own) {
            Check.report(call + " throws " + thrown + " at " + thrown.getStackTrace()[0]);
        }
    }

    private int number() {
        return below(6) == 0 ? FAR[below(FAR.length)] : below(8) == 0 ? below(31) : below(7);
    }

    /** Mostly the next sign of a text that can be executed, so that commands are carried out too. */
    private char character() {
        if (below(40) == 0) {
            return (char) (below(2) == 0 ? below(1 << 16) : below(128));
        }
        typed++;
        return COMMANDS.charAt(typed % COMMANDS.length());
    }
}
