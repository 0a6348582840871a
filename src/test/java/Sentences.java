import java.lang.reflect.InvocationTargetException;
import java.lang.reflect.Method;
import java.util.Arrays;
import java.util.Comparator;
import java.util.List;
import java.util.function.IntUnaryOperator;
import java.util.stream.Collectors;

/** Runs the tests of a class that hold a sentence each; what is wrong is printed with the sentence. */
final class Sentences {
    /** Integers that are far from every bound, and those that a shift or a product would wrap into one. */
    private static final int[] FAR = {Integer.MIN_VALUE, Integer.MIN_VALUE + 1, Integer.MAX_VALUE, 1 << 16, 1 << 30};

    private Sentences() {
    }

    static List<Method> of(Class<?> tests) {
        return Arrays.stream(tests.getDeclaredMethods())
                .filter(m -> m.isAnnotationPresent(Sentence.class))
                .sorted(Comparator.comparing(Method::getName))
                .collect(Collectors.toList());
    }

    static void hold(Class<?> tests, Checks c) throws IllegalAccessException {
        for (Method test : of(tests)) {
            Sentence sentence = test.getAnnotation(Sentence.class);
            c.begin(test.getName() + " (" + sentence.in() + ": " + sentence.says() + ")");
            int before = c.calls();
            try {
                test.invoke(null);
            } catch (InvocationTargetException e) {
                c.due("thrown: " + e.getCause(), 1, 0);
            }
            c.due("looks at no answer", c.calls() == before ? 1 : 0, 0);
        }
        c.end();
    }

    /** A call that takes a number from low to high: what is not, is refused. */
    static void bounds(Checks c, String call, int low, int high, int refusal, IntUnaryOperator of) {
        c.due(call + " of " + (low - 1), of.applyAsInt(low - 1), refusal);
        c.due(call + " of " + (high + 1), of.applyAsInt(high + 1), refusal);
        for (int far : FAR) {
            c.due(call + " of " + far, of.applyAsInt(far), refusal);
        }
        c.due(call + " of " + low + " is refused", of.applyAsInt(low) == refusal ? 1 : 0, 0);
        c.due(call + " of " + high + " is refused", of.applyAsInt(high) == refusal ? 1 : 0, 0);
    }
}
