import java.lang.reflect.InvocationTargetException;
import java.lang.reflect.Method;
import java.lang.reflect.Modifier;
import java.nio.file.Path;
import java.util.HashMap;
import java.util.List;
import java.util.Map;
import java.util.Set;
import java.util.TreeSet;
import java.util.regex.Matcher;
import java.util.regex.Pattern;

/**
 * README.md shows the use of the class as one run, with the answer behind each call: the calls are made
 * here, and each has to answer what stands there. Each call of the face has to be shown or told.
 */
public final class ReadmeTest {
    private static final Path README = Path.of("README.md");
    private static final Pattern CALL = Pattern.compile(
            "(?:int (\\w+) = )?net\\.(\\w+)\\(([^()]*)\\);\\s+// (throws \\w+|-?\\w+)(?:: .*)?");

    private final Map<String, Integer> variables = new HashMap<>();
    private final Set<String> shown = new TreeSet<>();
    private Multidell net = new Multidell();

    private ReadmeTest() {
    }

    public static void main(String[] args) throws ReflectiveOperationException {
        new ReadmeTest().run(Source.linesOf(README));
        Check.end();
    }

    private void run(List<String> lines) throws ReflectiveOperationException {
        boolean inCode = false;
        for (String line : lines) {
            if (line.startsWith("```")) {
                inCode = line.equals("```java");
            } else if (inCode) {
                step(line);
            }
        }
        for (Method method : Multidell.class.getDeclaredMethods()) {
            if (Modifier.isPublic(method.getModifiers())) {
                Check.same("README.md shows " + method.getName(), true, shown.contains(method.getName()));
            }
        }
    }

    private void step(String line) throws ReflectiveOperationException {
        if (line.startsWith("Multidell net = new Multidell();")) {
            net = new Multidell();
            return;
        }
        Matcher call = CALL.matcher(line);
        boolean readable = call.matches();
        Check.same("README.md, a call and its answer: " + line, true, readable);
        if (readable) {
            String got = answer(call.group(2), call.group(3));
            shown.add(call.group(2));
            Check.same("README.md, " + line, valueOf(call.group(4)), got);
            if (call.group(1) != null) {
                variables.put(call.group(1), Integer.valueOf(got));
            }
        }
    }

    /** The names of the document's constants stand for their numbers. */
    private static String valueOf(String told) throws ReflectiveOperationException {
        return told.matches("[A-Z]+") ? String.valueOf(Multidell.class.getField(told).get(null)) : told;
    }

    private String answer(String name, String told) throws ReflectiveOperationException {
        String[] words = told.isEmpty() ? new String[0] : told.split(", ");
        Method method = methodOf(name, words.length);
        Object[] arguments = new Object[words.length];
        for (int place = 0; place < words.length; place++) {
            arguments[place] = method.getParameterTypes()[place] == boolean.class
                    ? Boolean.valueOf(words[place]) : number(words[place]);
        }
        try {
            return String.valueOf(method.invoke(net, arguments));
        } catch (InvocationTargetException thrown) {
            return "throws " + thrown.getCause().getClass().getSimpleName();
        }
    }

    private static Method methodOf(String name, int parameters) throws NoSuchMethodException {
        for (Method method : Multidell.class.getMethods()) {
            if (method.getName().equals(name) && method.getParameterCount() == parameters) {
                return method;
            }
        }
        throw new NoSuchMethodException(name);
    }

    private Integer number(String word) {
        return variables.containsKey(word) ? variables.get(word) : Integer.valueOf(word);
    }
}
