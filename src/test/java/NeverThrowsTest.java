import java.lang.reflect.InvocationTargetException;
import java.lang.reflect.Method;
import java.lang.reflect.Modifier;

/**
 * Every act with every mix of small, wrong and extreme numbers, on shelves with a thing of each kind: none throws.
 * Nor does one behind the 512th call, where the answers are free.
 */
public final class NeverThrowsTest {
    private static final Due due = new Due("NeverThrowsTest");
    private static final int[] NUMBERS = {Integer.MIN_VALUE, -1, 0, 1, 2, 4, 5, 7, 9, 10, 1000, Integer.MAX_VALUE};

    public static void main(String[] args) throws ReflectiveOperationException {
        BitAlmanac old = new BitAlmanac();
        for (int i = 0; i < 5000; i++) {
            old.feed(i, 1);
            old.row(i % 10, i);
        }
        for (Method m : BitAlmanac.class.getDeclaredMethods()) {
            if (Modifier.isPublic(m.getModifiers())) {
                for (int tape = 0; tape < 3; tape++) {
                    tryAll(m, tape, old);
                }
            }
        }
        due.end();
    }

    private static void tryAll(Method m, int tape, BitAlmanac old) throws ReflectiveOperationException {
        Class<?>[] types = m.getParameterTypes();
        Method counted = Shelf.class.getDeclaredMethod(m.getName(), types);
        int mixes = 1;
        for (int i = 0; i < types.length; i++) {
            mixes *= NUMBERS.length;
        }
        // five numbers have too many mixes for all to be tried on fresh shelves
        int step = mixes > 2000 ? 37 : 1;
        Shelf x = shelf();
        for (int mix = 0; mix < mixes; mix += step) {
            if (mix % 16 == 0) {
                x = shelf();
            }
            x.taped(tape == 0 ? "" : tape == 1 ? "abcdefgh" : "a name that is too long for a name");
            Object[] values = new Object[types.length];
            for (int i = 0, rest = mix; i < types.length; i++, rest /= NUMBERS.length) {
                int number = NUMBERS[rest % NUMBERS.length];
                values[i] = types[i] == long.class ? (Object) Long.valueOf(number)
                    : types[i] == boolean.class ? (Object) (number > 0) : (Object) number;
            }
            String call = m.getName() + java.util.Arrays.toString(values);
            due.isText(call + " throws", thrown(counted, x, values), "nothing");
            due.isText(call + " throws behind the 512th call", thrown(m, old, values), "nothing");
        }
    }

    private static String thrown(Method m, Object on, Object[] values) throws IllegalAccessException {
        try {
            m.invoke(on, values);
        } catch (InvocationTargetException e) {
            return e.getCause().toString();
        }
        return "nothing";
    }

    private static Shelf shelf() {
        Shelf x = new Shelf();
        for (int kind = 1; kind <= 5; kind++) {
            x.bound(kind, kind, "abcdefgh", "abcdefgx", "zzzzzzzz");
        }
        x.drafted(7, "a", "abc");
        x.row(9, 70);
        x.flip(9, 69, true);
        return x;
    }
}
