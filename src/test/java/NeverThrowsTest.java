import java.lang.reflect.InvocationTargetException;
import java.lang.reflect.Method;
import java.lang.reflect.Modifier;
import java.util.Arrays;
import java.util.Comparator;
import java.util.Random;

/** Every public method with wild arguments in every state that random calls reach: none may throw. */
public final class NeverThrowsTest {
    private static final int RUNS = 2000;
    private static final int CALLS = 512;
    private static final int[] WILD = {
        Integer.MIN_VALUE, Integer.MIN_VALUE + 1, -1000000, -129, -128, -32, -10, -9, -2, -1, 0, 1, 2, 5, 6, 7, 8, 9, 10, 15, 16,
        17, 20, 21, 30, 31, 32, 60, 61, 64, 95, 96, 99, 100, 127, 128, 255, 256, 999, 1000, 1000000,
        Integer.MAX_VALUE - 1, Integer.MAX_VALUE
    };
    private static final String LETTERS = "whbtmfoxd;0123456789";

    private NeverThrowsTest() {
    }

    public static void main(String[] args) throws IllegalAccessException {
        Checks checks = new Checks();
        Method[] face = Arrays.stream(PaidInDays.class.getDeclaredMethods())
            .filter(method -> Modifier.isPublic(method.getModifiers()))
            .sorted(Comparator.comparing(Method::getName))
            .toArray(Method[]::new);
        for (int run = 0; run < RUNS; run++) {
            Random random = new Random(run);
            PaidInDays x = new PaidInDays();
            if (run % 4 != 0) {
                Checks.tell(x, "ww1003;wh4012;wb2096;wt5127;wm3064;wf9000;".substring(0, 7 * (1 + random.nextInt(6))));
            }
            for (int call = 0; call < CALLS; call++) {
                checks.holds("run " + run + ", call " + call + " ends", ends(x, face[random.nextInt(face.length)], random));
            }
        }
        checks.end();
    }

    private static boolean ends(PaidInDays x, Method method, Random random) throws IllegalAccessException {
        Object[] arguments = new Object[method.getParameterCount()];
        for (int i = 0; i < arguments.length; i++) {
            arguments[i] = random.nextInt(3) == 0 ? WILD[random.nextInt(WILD.length)] : random.nextInt(8);
        }
        if (method.getName().equals("letter") && random.nextInt(10) != 0) {
            arguments[0] = (int) LETTERS.charAt(random.nextInt(LETTERS.length()));
        }
        try {
            method.invoke(x, arguments);
            return true;
        } catch (InvocationTargetException thrown) {
            System.out.println(method.getName() + Arrays.toString(arguments) + ": " + thrown.getCause());
            return false;
        }
    }
}
