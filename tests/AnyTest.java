import java.lang.reflect.InvocationTargetException;
import java.lang.reflect.Method;
import java.util.ArrayList;
import java.util.Arrays;
import java.util.List;

/** Any calls with any numbers, in any state: nothing but what the call's own line in the document names is thrown. */
public final class AnyTest {
    private static final int[] SOME = {Integer.MIN_VALUE, Integer.MIN_VALUE + 1, -10000, -9999, -1000, -999, -401, -400, -31, -30, -23, -20, -4, -3, -2,
        -1, 0, 1, 2, 3, 4, 5, 7, 8, 9, 10, 11, 12, 13, 15, 16, 17, 18, 19, 20, 21, 22, 30, 31, 40, 41, 96, 97, 99, 100, 255, 256, 399, 400, 401, 420,
        999, 1000, 46341, 65536, Integer.MAX_VALUE - 1, Integer.MAX_VALUE};
    private static final String TEXT = "fff  00128()()[[,,]]]+*-";

    private final Drawn drawn;
    private final LetterForms x = new LetterForms();

    private AnyTest(int seed) {
        drawn = new Drawn(seed);
    }

    public static void main(String[] args) throws IllegalAccessException {
        List<Method> all = new ArrayList<>();
        for (Method m : LetterForms.class.getMethods()) {
            if (m.getDeclaringClass() == LetterForms.class) {
                all.add(m);
            }
        }
        all.sort((a, b) -> a.getName().compareTo(b.getName()));
        Check.due("all that can be called", 42, all::size);
        for (int seed = 1; seed <= 700; seed++) {
            new AnyTest(seed).run(all);
        }
        Check.end("AnyTest");
    }

    private void run(List<Method> all) throws IllegalAccessException {
        for (int calls = 0; calls < 500; calls += 7) {
            if (drawn.once(2)) {
                tell();
            }
            for (int n = 0; n < 3; n++) {
                call(all.get(drawn.below(all.size())));
            }
        }
    }

    private int number() {
        return drawn.once(2) ? drawn.between(0, 8) : SOME[drawn.below(SOME.length)];
    }

    private void call(Method m) throws IllegalAccessException {
        Class<?>[] of = m.getParameterTypes();
        Object[] told = new Object[of.length];
        for (int k = 0; k < of.length; k++) {
            told[k] = of[k] == boolean.class ? (Object) drawn.once(2) : (Object) number();
        }
        String thrown = "";
        try {
            m.invoke(x, told);
        } catch (InvocationTargetException e) {
            Class<?> c = e.getCause().getClass();
            if (!Arrays.asList(m.getExceptionTypes()).contains(c)) {
                thrown = c.getName();
            }
        }
        String name = thrown;
        Check.due(m.getName() + Arrays.toString(told), "", () -> name);
    }

    /** A form, a table, or a text, so that there is something to call for. */
    private void tell() {
        int what = drawn.below(3);
        if (what == 0) {
            int[] f = new int[drawn.between(1, 9)];
            for (int k = 0; k < f.length; k++) {
                f[k] = drawn.once(3) ? 0 : drawn.below(256);
            }
            Check.answer(() -> Check.form(x, f));
        } else if (what == 1) {
            Check.answer(() -> x.table(number(), number(), number(), number()));
        } else {
            StringBuilder text = new StringBuilder();
            for (int k = drawn.between(1, 20); k > 0; k--) {
                text.append(TEXT.charAt(drawn.below(TEXT.length())));
            }
            String all = drawn.once(2) ? text.toString() : "[f,f]2*" + "f*".repeat(drawn.below(6)) + "f";
            Check.answer(() -> Check.signs(x, all));
        }
    }
}
