import java.lang.reflect.InvocationTargetException;
import java.lang.reflect.Method;
import java.lang.reflect.Modifier;

/** No call throws: each by every row of ends and far numbers, with a realm and without, against the model's answers. */
public final class FarTest {
    private static final Check CHECK = new Check("FarTest");
    private static final int[] NUMBERS = {Integer.MIN_VALUE, -1, 0, 1, 4, 61, Integer.MAX_VALUE};
    private static final String TEXT = "k2103,213;c06;l14;s05;c38";
    private static final int CALLS = 400;

    private LinenLaw x;
    private Model m;
    private int left = 0;

    public static void main(String[] args) throws ReflectiveOperationException {
        for (Method method : LinenLaw.class.getDeclaredMethods()) {
            if (Modifier.isPublic(method.getModifiers())) {
                new FarTest().each(method, true);
                new FarTest().each(method, false);
            }
        }
        CHECK.end();
    }

    private void each(Method method, boolean withRealm) throws ReflectiveOperationException {
        Method due = Model.class.getDeclaredMethod(method.getName(), method.getParameterTypes());
        int parameters = method.getParameterCount();
        Object[] row = new Object[parameters];
        int rows = (int) Math.pow(NUMBERS.length, parameters);
        for (int k = 0; k < rows; k++, left--) {
            if (left == 0) {
                make(withRealm);
            }
            int rest = k;
            for (int p = 0; p < parameters; p++, rest /= NUMBERS.length) {
                row[p] = NUMBERS[rest % NUMBERS.length];
            }
            String call = method.getName() + java.util.Arrays.toString(row);
            CHECK.due(call, answer(method, x, row), answer(due, m, row));
            CHECK.due("fault() behind " + call, x.fault(), m.fault());
        }
    }

    /** What a call answers; it ends the test if it throws. */
    private static long answer(Method method, Object of, Object[] row) throws ReflectiveOperationException {
        try {
            return ((Number) method.invoke(of, row)).longValue();
        } catch (InvocationTargetException e) {
            throw new IllegalStateException(method.getName() + java.util.Arrays.toString(row), e.getCause());
        }
    }

    // Anew each time, as an object is used for 512 calls at most, of which making it takes some.
    private void make(boolean withRealm) {
        x = new LinenLaw();
        m = new Model();
        left = CALLS / 2;
        for (int k = 0; k < 3; k++) {
            x.sheet(k, k, TEXT.length());
            m.sheet(k, k, TEXT.length());
        }
        for (int i = 0; withRealm && i < TEXT.length(); i++) {
            x.put(0, i, TEXT.charAt(i));
            m.put(0, i, TEXT.charAt(i));
        }
        x.realm(0, 0, 0, TEXT.length());
        m.realm(0, 0, 0, TEXT.length());
    }
}
