import java.lang.reflect.InvocationTargetException;
import java.lang.reflect.Method;
import java.util.ArrayList;
import java.util.HashMap;
import java.util.List;
import java.util.Map;

/**
 * A call told by text: "splice 0 2 6 NONE 3 *2 = 1" is made twice, and the second one has to answer 1.
 * Calls that follow each other are parted by ';'. A refusal is told by its letter: B for
 * IndexOutOfBoundsException, A for IllegalArgumentException, S for IllegalStateException.
 */
final class Call {
    private static final String QUESTIONS = " tapeIs heard takes takesAnew isLost seconds stamperIs "
            + "noise grade join fileIs account accountAnew ";
    private static final Map<String, Method> METHODS = new HashMap<>();

    final String text;
    final int times;
    /** What it has to answer; null if it only has to be answered, not refused. */
    final String want;
    private final String name;
    private final Object[] arguments;

    private Call(String told) {
        String[] sides = told.split("=");
        String[] words = sides[0].trim().split(" +");
        int last = words.length - 1;
        boolean isRepeated = words[last].startsWith("*");
        text = sides[0].trim();
        name = words[0];
        times = isRepeated ? Integer.parseInt(words[last].substring(1)) : 1;
        want = sides.length > 1 ? wanted(sides[1].trim()) : null;
        arguments = new Object[isRepeated ? last - 1 : last];
        for (int i = 0; i < arguments.length; i++) {
            arguments[i] = number(words[i + 1]);
        }
        if (methodOf(name) == null || methodOf(name).getParameterCount() != arguments.length) {
            throw new IllegalStateException("the test tells a call that there is not: " + told);
        }
    }

    static List<Call> row(String told) {
        List<Call> calls = new ArrayList<>();
        for (String call : told.split(";")) {
            if (!call.isBlank()) {
                calls.add(new Call(call));
            }
        }
        return calls;
    }

    /** Makes one call that needs no row, and answers as answerOf does. */
    static String answer(MatrixHouse house, String name, int... arguments) {
        Object[] boxed = new Object[arguments.length];
        for (int i = 0; i < boxed.length; i++) {
            boxed[i] = arguments[i];
        }
        return invoke(methodOf(name), house, boxed);
    }

    static boolean isRefusal(String answer) {
        return answer.equals("B") || answer.equals("A") || answer.equals("S");
    }

    /** Calls that may change nothing, whether they are answered or refused. */
    boolean isQuestion() {
        return QUESTIONS.contains(" " + name + " ");
    }

    /** Makes the call as often as it is told, and answers what the last one answers. */
    String answerOf(MatrixHouse house) {
        String answer = "";
        for (int i = 0; i < times; i++) {
            answer = invoke(methodOf(name), house, arguments);
            if (i + 1 < times && isRefusal(answer)) {
                return answer + " at the call " + (i + 1) + " of " + times;
            }
        }
        return answer;
    }

    private static String invoke(Method method, MatrixHouse house, Object[] arguments) {
        try {
            Object answer = method.invoke(house, arguments);
            boolean isYes = answer instanceof Boolean b && b;
            return answer == null ? "0" : answer instanceof Boolean ? (isYes ? "1" : "0") : answer.toString();
        } catch (InvocationTargetException e) {
            return letter(e.getCause());
        } catch (IllegalAccessException e) {
            throw new IllegalStateException(e);
        }
    }

    /** Only these very classes have a letter: what the machine throws is of a class below them. */
    private static String letter(Throwable thrown) {
        Class<?> its = thrown.getClass();
        return its == IndexOutOfBoundsException.class ? "B"
                : its == IllegalArgumentException.class ? "A"
                : its == IllegalStateException.class ? "S" : its.getName();
    }

    private static Method methodOf(String name) {
        if (METHODS.isEmpty()) {
            for (Method method : MatrixHouse.class.getMethods()) {
                if (method.getDeclaringClass() == MatrixHouse.class) {
                    METHODS.put(method.getName(), method);
                }
            }
        }
        return METHODS.get(name);
    }

    private static String wanted(String told) {
        return isRefusal(told) ? told : Integer.toString(number(told));
    }

    private static int number(String told) {
        switch (told) {
            case "NONE":
                return MatrixHouse.NONE;
            case "MAX":
                return Integer.MAX_VALUE;
            case "MIN":
                return Integer.MIN_VALUE;
            case "ALL20":
                return (1 << 20) - 1;
            default:
                return Integer.parseInt(told);
        }
    }
}
