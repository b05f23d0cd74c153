import java.lang.reflect.InvocationTargetException;
import java.lang.reflect.Method;
import java.util.Arrays;
import java.util.Map;
import java.util.TreeMap;

/**
 * A run of calls on a new object, for one sentence of the document. What is due is asked of the class and of
 * the model, so that a due answer that was written down wrongly is told as well.
 */
final class Script {
    static final int NONE = -1;
    static final int STATE = -3;
    static final int FULL = -4;
    static final int OPEN = -5;
    /** What is promised ends behind so many calls. */
    static final int CALLS = 512;
    private static final Map<String, Method> METHODS = new TreeMap<>();

    private final Checks checks;
    private final String sentence;
    private final CartoonHouse house = new CartoonHouse();
    private final Model model = new Model();
    private int calls;

    Script(Checks checks, String sentence) {
        this.checks = checks;
        this.sentence = sentence;
        if (METHODS.isEmpty()) {
            for (Method method : CartoonHouse.class.getDeclaredMethods()) {
                METHODS.put(method.getName(), method);
            }
        }
    }

    /** How many calls were made. */
    int calls() {
        return calls;
    }

    /** A call, and the answer that is due. */
    Script due(int due, String name, int... values) {
        String told = sentence + ": " + name + Arrays.toString(values);
        checks.due(told + " by the model", due, model.call(name, values));
        checks.due(told, due, answer(told, name, values));
        return this;
    }

    /** A call whose answer the model tells. */
    int same(String name, int... values) {
        int due = model.call(name, values);
        String told = sentence + ": " + name + Arrays.toString(values);
        checks.due(told, due, answer(told, name, values));
        return due;
    }

    private int answer(String told, String name, int... values) {
        calls++;
        if (calls > CALLS) {
            checks.due(told, "no call more than " + CALLS, "one more");
        }
        try {
            return (Integer) METHODS.get(name).invoke(house, Arrays.stream(values).boxed().toArray());
        } catch (InvocationTargetException thrown) {
            checks.due(told, "no exception", thrown.getCause().toString());
        } catch (IllegalAccessException thrown) {
            checks.due(told, "a public call", thrown.toString());
        }
        return Integer.MIN_VALUE;
    }

    /** THE TAPE, which is empty, has a text then. */
    Script text(String text) {
        for (int k = 0; k < text.length(); k += 20) {
            int[] values = new int[5];
            for (int j = 0; j < 20; j++) {
                values[j / 4] = values[j / 4] << 8 | (k + j < text.length() ? text.charAt(k + j) & 255 : 'Z');
            }
            due(k + 20, "feed", values);
        }
        return text.length() % 20 == 0 ? this : due(text.length(), "end", text.length());
    }

    /** A text's call with the text, which is WRONG at a place. */
    Script wrong(int place, String text, String name, int... values) {
        return text(text).due(-1000 - place, name, values);
    }

    /** All of THE OUT, as a text. */
    Script out(String due) {
        for (int k = 0; k < due.length(); k++) {
            due(due.charAt(k), "out", k);
        }
        return due(NONE, "out", due.length());
    }

    Script written(int drawing, String due) {
        return due(due.length(), "written", drawing).out(due);
    }

    Script told(int layer, String due) {
        return due(due.length(), "told", layer).out(due);
    }

    /**
     * The call with one argument after the other just below its least value, just above its greatest, and as
     * far as ints go; the others are right. Bounds has the least and the greatest value of each argument.
     */
    Script outside(int due, String name, int[] right, int... bounds) {
        for (int k = 0; k < right.length; k++) {
            int[] values = right.clone();
            values[k] = bounds[2 * k] - 1;
            due(due, name, values);
            values[k] = bounds[2 * k + 1] + 1;
            due(due, name, values);
            values[k] = Integer.MIN_VALUE;
            due(due, name, values);
            values[k] = Integer.MAX_VALUE;
            due(due, name, values);
        }
        return this;
    }

    static int[] with(int... values) {
        return values;
    }
}
