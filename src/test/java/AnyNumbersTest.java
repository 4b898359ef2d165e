import java.lang.reflect.InvocationTargetException;
import java.lang.reflect.Method;
import java.util.List;
import java.util.function.Supplier;

/** LANGUAGE.md, rule 7: no call throws, whatever the numbers, in whatever state; answers are refusals or small. */
public final class AnyNumbersTest {
    private static final int[] NUMBERS = {Integer.MIN_VALUE, -9, -1, 0, 1, 3, 7, 8, 31, 60, 255, Integer.MAX_VALUE};
    private static final int[] FEW = {Integer.MIN_VALUE, -1, 0, 1, 2, 6, 8, 33, Integer.MAX_VALUE};
    private static final int CALLS_OF_AN_OBJECT = 200;
    private static final int LEAST_ANSWER = -14;

    private AnyNumbersTest() {
    }

    public static void main(String[] args) throws IllegalAccessException {
        List<Supplier<ParadeRow>> states = List.of(Towns::nobody, Towns::busy, Towns::ringOfEight, () -> Due.placed("p255 7;"));
        for (Supplier<ParadeRow> state : states) {
            for (Method method : ParadeRow.class.getMethods()) {
                if (method.getDeclaringClass() == ParadeRow.class) {
                    Due.is("strange answers of " + method.getName(), strangeAnswers(state, method), 0);
                }
            }
        }
        Due.end("AnyNumbersTest");
    }

    private static int strangeAnswers(Supplier<ParadeRow> state, Method method) throws IllegalAccessException {
        int[] numbers = method.getParameterCount() > 3 ? FEW : NUMBERS;
        int ways = 1;
        for (int i = 0; i < method.getParameterCount(); i++) {
            ways *= numbers.length;
        }
        int strange = 0;
        ParadeRow x = state.get();
        for (int way = 0; way < ways; way++) {
            if (way % CALLS_OF_AN_OBJECT == 0) {
                x = state.get();
            }
            if (!isPlain(x, method, way, numbers)) {
                strange++;
            }
        }
        return strange;
    }

    private static boolean isPlain(ParadeRow x, Method method, int way, int[] numbers) throws IllegalAccessException {
        Object[] chosen = new Object[method.getParameterCount()];
        int rest = way;
        for (int i = 0; i < chosen.length; i++) {
            chosen[i] = numbers[rest % numbers.length];
            rest /= numbers.length;
        }
        try {
            int answer = (Integer) method.invoke(x, chosen);
            return answer >= LEAST_ANSWER || answer <= ParadeRow.UNKNOWN && answer >= ParadeRow.FULL;
        } catch (InvocationTargetException thrown) {
            System.out.println(method.getName() + List.of(chosen) + " threw " + thrown.getCause());
            return false;
        }
    }
}
