import java.lang.reflect.InvocationTargetException;
import java.lang.reflect.Method;
import java.lang.reflect.Modifier;
import java.util.Arrays;
import java.util.Comparator;

/** Rule 7 of LANGUAGE.md: no call ever throws, for any arguments in any state, even behind the 512th call. */
public final class AnyArgumentsTest {
    private static final Due DUE = new Due("AnyArgumentsTest");
    private static final int RUNS = 300, CALLS = 1500;
    private static final int[] INTS = {
        Integer.MIN_VALUE, Integer.MIN_VALUE + 1, -1001, -1000, -103, -11, -4, -2, -1, 0, 1, 2, 3, 4, 5, 6, 7, 8, 10,
        11, 12, 15, 16, 17, 19, 20, 21, 39, 40, 41, 512, 1000, 1001, 1 << 28, 1 << 30, Integer.MAX_VALUE - 1,
        Integer.MAX_VALUE,
    };

    private AnyArgumentsTest() {
    }

    public static void main(String[] args) throws IllegalAccessException {
        Method[] methods = OrreryDials.class.getDeclaredMethods();
        Method[] open = Arrays.stream(methods)
                .filter(method -> Modifier.isPublic(method.getModifiers()))
                .sorted(Comparator.comparing(Method::getName)).toArray(Method[]::new);
        DUE.due("calls of the face", open.length, 25);
        Numbers numbers = new Numbers(7);
        for (int run = 0; run < RUNS; run++) {
            OrreryDials x = make(run % 3);
            for (int i = 0; i < CALLS; i++) {
                call(x, open[numbers.below(open.length)], numbers);
            }
        }
        DUE.end();
    }

    private static OrreryDials make(int state) {
        if (state == 0) {
            return new OrreryDials();
        }
        return state == 1 ? Orrery.busy(0) : Orrery.full(0);
    }

    private static void call(OrreryDials x, Method method, Numbers numbers) throws IllegalAccessException {
        Class<?>[] types = method.getParameterTypes();
        Object[] arguments = new Object[types.length];
        for (int i = 0; i < types.length; i++) {
            arguments[i] = argument(types[i], numbers);
        }
        try {
            method.invoke(x, arguments);
            DUE.due("nothing thrown", true);
        } catch (InvocationTargetException e) {
            DUE.due(method.getName() + Arrays.toString(arguments) + " threw " + e.getCause(), false);
        }
    }

    /** Small ones half of the time, so that most calls come further than their first refusal. */
    private static Object argument(Class<?> type, Numbers numbers) {
        if (type == boolean.class) {
            return numbers.coin();
        }
        if (type == int.class) {
            return numbers.coin() ? numbers.below(4) : INTS[numbers.below(INTS.length)];
        }
        return numbers.below(4) == 0 ? numbers.whole() : numbers.real(numbers.coin());
    }
}
