import java.lang.reflect.Method;
import java.util.Arrays;
import java.util.Comparator;

/**
 * No call throws or fails to end, for any arguments: each call with all combinations of numbers at and around its
 * bounds, of new communes and of such as ModelTest begins with, and all answers are the Model's.
 */
public final class AnyArgumentsTest {
    private static final int[][] NUMBERS = {
        {},
        {Integer.MIN_VALUE, Integer.MIN_VALUE + 1, -1000, -100, -2, -1, 0, 1, 2, 3, 4, 5, 6, 9, 10, 15, 20, 30, 31, 39, 40, 49, 50, 60, 61, 99,
            100, 119, 120, 121, 200, 359, 360, 999, 1000, 7199, 7200, 9999, 10000, 99999, 1 << 30, Integer.MAX_VALUE - 1, Integer.MAX_VALUE},
        {Integer.MIN_VALUE, -1, 0, 1, 2, 3, 4, 5, 6, 9, 10, 12, 13, 14, 15, 31, 50, 60, 99, 199, 200, 999, 7199, 7200, 1023, Integer.MAX_VALUE},
        {Integer.MIN_VALUE, -1, 0, 1, 2, 3, 5, 9, 10, 31, 60, 99, 100, 999, 7199, 10000, Integer.MAX_VALUE},
        {Integer.MIN_VALUE, -1, 0, 1, 2, 7, 9, 20, 99, Integer.MAX_VALUE},
        {Integer.MIN_VALUE, -1, 0, 1, 2, 59, Integer.MAX_VALUE}};

    private static int run;
    private static boolean begun;

    public static void main(String[] args) throws ReflectiveOperationException {
        Method[] calls = AlpCommune.class.getDeclaredMethods();
        Arrays.sort(calls, Comparator.comparing(Method::getName));
        for (int pass = 0; pass < 2; pass++) {
            begun = pass == 1;
            anew();
            for (Method call : calls) {
                if (!call.toString().startsWith("public ")) continue;
                Method like = Model.class.getDeclaredMethod(call.getName(), call.getParameterTypes());
                all(call, like, new Object[call.getParameterCount()], 0);
            }
        }
        Check.end();
    }

    private static void anew() {
        run++;
        ModelTest.anew(run);
        if (begun) ModelTest.begin(run % ModelTest.THEMES.length);
    }

    private static void all(Method call, Method like, Object[] arguments, int at) throws ReflectiveOperationException {
        if (at == arguments.length) {
            ask(call, like, arguments);
        } else if (call.getParameterTypes()[at] == boolean.class) {
            for (boolean is : new boolean[] {false, true}) {
                arguments[at] = is;
                all(call, like, arguments, at + 1);
            }
        } else {
            for (int number : NUMBERS[arguments.length]) {
                arguments[at] = number;
                all(call, like, arguments, at + 1);
            }
        }
    }

    private static void ask(Method call, Method like, Object[] arguments) throws ReflectiveOperationException {
        if (ModelTest.calls >= ModelTest.MOST_CALLS) anew();
        int want = (Integer) like.invoke(ModelTest.y, arguments);
        ModelTest.same(call.getName() + Arrays.toString(arguments), (Integer) call.invoke(ModelTest.x, arguments), want);
    }
}
