import java.lang.reflect.InvocationTargetException;
import java.lang.reflect.Method;
import java.lang.reflect.Modifier;
import java.nio.file.Files;
import java.nio.file.Path;
import java.util.Set;
import java.util.TreeSet;
import java.util.regex.Matcher;
import java.util.regex.Pattern;

/** The run that README.md tells: each call has to answer what stands beside it. Its third argument is that file. */
public final class ReadmeTest {
    private static final Pattern TOLD =
            Pattern.compile("house\\.(\\w+)\\(([^)]*)\\); +// (nothing|throws \\w+|[^:\\s]+)(: .*)?");

    public static void main(String[] args) throws Exception {
        Path file = Path.of(args.length > 2 ? args[2] : "README.md");
        MatrixHouse house = null;
        Set<String> told = new TreeSet<>();
        for (String line : Files.readAllLines(file)) {
            if (line.startsWith("MatrixHouse house = new MatrixHouse();")) {
                house = new MatrixHouse();
            } else if (line.startsWith("house.")) {
                Matcher call = TOLD.matcher(line);
                Due.holds("README.md tells a call and its answer: " + line, call.matches() && house != null);
                if (call.matches() && house != null) {
                    Due.compare("README.md: " + line, call.group(3), answer(house, call.group(1), call.group(2)));
                    told.add(call.group(1));
                }
            }
        }
        Due.compare("the calls that README.md tells", publicCalls().toString(), told.toString());
        Due.end("ReadmeTest");
    }

    private static Set<String> publicCalls() {
        Set<String> names = new TreeSet<>();
        for (Method method : MatrixHouse.class.getDeclaredMethods()) {
            if (Modifier.isPublic(method.getModifiers())) {
                names.add(method.getName());
            }
        }
        return names;
    }

    private static String answer(MatrixHouse house, String name, String told) throws Exception {
        String[] words = told.isEmpty() ? new String[0] : told.split(", *");
        Class<?>[] types = new Class<?>[words.length];
        Object[] arguments = new Object[words.length];
        for (int i = 0; i < words.length; i++) {
            types[i] = int.class;
            arguments[i] = number(words[i]);
        }
        try {
            Object answer = MatrixHouse.class.getMethod(name, types).invoke(house, arguments);
            return answer == null ? "nothing" : answer.toString();
        } catch (InvocationTargetException e) {
            return "throws " + e.getCause().getClass().getSimpleName();
        }
    }

    private static int number(String word) {
        if (word.equals("MatrixHouse.NONE")) {
            return MatrixHouse.NONE;
        }
        return word.startsWith("0b") ? Integer.parseInt(word.substring(2), 2) : Integer.parseInt(word);
    }
}
