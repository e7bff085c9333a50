import java.lang.reflect.InvocationTargetException;
import java.lang.reflect.Method;
import java.lang.reflect.Modifier;

/** Every call, in several states, with arguments from the least to the greatest: none throws, all end. */
public final class AnyArgumentsTest {
    private static final Check CHECK = new Check("AnyArgumentsTest");
    private static final int[] FEW = {Integer.MIN_VALUE, -1, 0, 1, 2, 5, 60, Integer.MAX_VALUE};
    private static final int[] MANY = {Integer.MIN_VALUE, Integer.MIN_VALUE + 1, -31, -2, -1, 0, 1, 2, 3, 4, 5, 6, 7, 8,
        9, 10, 15, 16, 20, 31, 32, 60, 61, 99, 100, 999, 1000, 65536, Integer.MAX_VALUE - 1, Integer.MAX_VALUE};

    public static void main(String[] args) throws IllegalAccessException {
        int methods = 0;
        for (Method method : SillHouse.class.getDeclaredMethods()) {
            if (Modifier.isPublic(method.getModifiers())) {
                methods++;
                callAll(method, new SillHouse());
                callAll(method, peopled("h6;s0120;t1230;w2340;s3450;w4520;t5010;w0205;s1399"));
                callAll(method, peopled("h2;w0101"));
            }
        }
        CHECK.due("public methods", methods, 30);
        largestSearch();
        CHECK.end();
    }

    private static SillHouse peopled(String text) {
        SillHouse x = Check.housed(text);
        Check.lay(x, 2, 2, 0, 1, 0, -1, Integer.MIN_VALUE, Integer.MAX_VALUE, 7);
        Check.lay(x, 3, 1, 0, 0, 0);
        for (int k = 0; k < 4; k++) {
            x.person(10 + 9 * k, k);
            x.stone(1 + 5 * k, k);
            x.take(k, k);
        }
        x.lay(1, 1);
        return x;
    }

    private static void callAll(Method method, SillHouse x) throws IllegalAccessException {
        int count = method.getParameterCount();
        int[] values = count > 3 ? FEW : MANY;
        int all = 1;
        for (int k = 0; k < count; k++) {
            all *= values.length;
        }
        for (int number = 0; number < all; number++) {
            Object[] arguments = new Object[count];
            int rest = number;
            for (int k = 0; k < count; k++) {
                arguments[k] = values[rest % values.length];
                rest /= values.length;
            }
            call(method, x, arguments);
        }
    }

    private static void call(Method method, SillHouse x, Object[] arguments) throws IllegalAccessException {
        try {
            method.invoke(x, arguments);
        } catch (InvocationTargetException thrown) {
            CHECK.due(method.getName() + java.util.Arrays.toString(arguments) + " threw " + thrown.getCause(), 1, 0);
        }
    }

    /** All stones can go anywhere but to one room, which can't be come to. */
    private static void largestSearch() {
        SillHouse x = Check.housed("h6;w0115;w1005;w1215;w2105;w2315;w3205;w3415;w4305");
        x.person(10, 0);
        for (int s = 0; s < 4; s++) {
            x.stone(1, s);
        }
        for (int k = 0; k < 440; k++) {
            CHECK.due("no way", x.fewest(0, 5, -1), -9);
        }
        CHECK.due("none to be laid", x.laid(0, 5, -1), -9);
        CHECK.due("to the fourth room still", x.fewest(0, 4, -1), 4);
    }
}
