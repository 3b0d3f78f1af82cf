import java.lang.reflect.Executable;
import java.lang.reflect.Field;
import java.lang.reflect.Modifier;
import java.util.ArrayList;
import java.util.List;
import java.util.regex.Matcher;
import java.util.regex.Pattern;

/**
 * What can be seen from outside of how the class keeps to ../shared/LANGUAGE.md; each look names its
 * rule. That no call ever throws by itself or makes much is for the reader, not for this test.
 */
public final class LanguageTest {
    private static final int MOST_CLASSES = 12;
    private static final int MOST_FIELDS = 20;
    private static final int MOST_PARAMETERS = 7;
    private static final int MOST_LINES = 60;

    private static final Pattern IMPORT = Pattern.compile("import ([\\w.*]+)\\s*;");
    private static final Pattern LIBRARY_CALL = Pattern.compile("\\b([A-Z][a-z]\\w*\\.\\w+)\\s*\\(");
    private static final Pattern THROW = Pattern.compile("\\bthrow\\b ?(\\w* ?\\w* ?\\(?)");
    private static final Pattern METHOD_HEAD =
            Pattern.compile("^ {4,8}(?! )(?!return|throw|if|for|while|\\})[^=;]*\\([^;]*");

    private LanguageTest() {
    }

    public static void main(String[] args) {
        rule1OneClassWithoutPackage();
        rules2And6WordsThatAreLeftOut();
        rule4Library();
        rule5StaticFields();
        rule6Throws();
        rule11Sizes();
        rule11MethodsAreShort();
        rule12NoObjectIsMadeByACall();
        Check.end();
    }

    private static void rule1OneClassWithoutPackage() {
        int classes = 0;
        for (String line : Source.codeLines()) {
            Check.same("rule 1, a package line: " + line, false, line.startsWith("package"));
            if (line.matches("^(public |final |abstract )*(class|interface|enum|record) .*")) {
                classes++;
            }
        }
        Check.same("rule 1, classes side by side", 1, classes);
    }

    private static void rules2And6WordsThatAreLeftOut() {
        String code = Source.code();
        for (String sign : new String[] {"->", "::", "@"}) {
            Check.same("rule 2, the sign " + sign, false, code.contains(sign));
        }
        for (String word : new String[] {"finally", "synchronized", "assert", "volatile", "native",
            "Exact", "System.out", "Thread", "Random", "nanoTime", "currentTimeMillis", "Object"}) {
            Check.same("rules 4, 6 and 13, the word " + word, false, code.contains(word));
        }
        Check.same("rule 6, what is caught", false, code.contains("catch"));
        for (String line : Source.lines()) {
            Check.same("rule 4, signs above 126: " + line, true, line.chars().allMatch(sign -> sign < 127));
        }
    }

    private static void rule4Library() {
        for (String imported : found(IMPORT, Source.code())) {
            Check.same("rule 4, import " + imported, true,
                    imported.matches("java\\.util\\.(Arrays|ArrayList|List|Iterator|NoSuchElementException)"));
        }
        for (String call : found(LIBRARY_CALL, Source.code())) {
            Check.same("rule 4, " + call, true, call.matches(
                    "Arrays\\.(copyOf|copyOfRange|fill)|System\\.arraycopy|List\\.of|(Integer|Long|Math)\\.\\w+"));
        }
    }

    private static void rule5StaticFields() {
        for (Class<?> type : allClasses()) {
            for (Field field : type.getDeclaredFields()) {
                if (Modifier.isStatic(field.getModifiers())) {
                    Check.same("rule 5, " + field + " is final", true,
                            Modifier.isFinal(field.getModifiers()));
                    Check.same("rule 5, the type of " + field, true,
                            field.getType().isPrimitive() || field.getType() == String.class);
                }
            }
        }
        Check.same("rule 5, a static block", false, Source.code().contains("static {"));
    }

    private static void rule6Throws() {
        List<String> thrown = found(THROW, Source.code());
        Check.same("rule 6, something is thrown", true, !thrown.isEmpty());
        for (String told : thrown) {
            Check.same("rule 6, throw " + told, true, told.matches(
                    "new (IllegalState|IllegalArgument|IndexOutOfBounds)Exception\\("));
        }
    }

    private static void rule11Sizes() {
        List<Class<?>> classes = allClasses();
        Check.same("rule 11, classes in the file", true, classes.size() <= MOST_CLASSES);
        for (Class<?> type : classes) {
            int fields = 0;
            for (Field field : type.getDeclaredFields()) {
                fields += Modifier.isStatic(field.getModifiers()) ? 0 : 1;
            }
            Check.same("rule 11, fields of " + type.getName(), true, fields <= MOST_FIELDS);
            for (Executable call : callsOf(type)) {
                Check.same("rule 11, parameters of " + call, true,
                        call.getParameterCount() <= MOST_PARAMETERS);
            }
        }
    }

    private static void rule11MethodsAreShort() {
        List<String> lines = Source.codeLines();
        int heads = 0;
        for (int first = 0; first < lines.size(); first++) {
            String head = lines.get(first);
            if (METHOD_HEAD.matcher(head).matches()) {
                String end = head.replaceAll("\\S.*", "") + "}";
                int last = first;
                while (last < lines.size() && !lines.get(last).equals(end)) {
                    last++;
                }
                heads++;
                Check.same("rule 11, lines of " + head.strip(), true, last - first < MOST_LINES);
            }
        }
        Check.same("rule 11, there are methods", true, heads > 0);
    }

    /** Stricter than the rule: rows are made by fields, objects by the constructor, and that is all. */
    private static void rule12NoObjectIsMadeByACall() {
        for (String line : Source.codeLines()) {
            if (line.contains("new ") && !line.contains("throw new ")) {
                Check.same("rule 12, " + line.strip(), true, line.matches(
                        " +private final int\\[\\] \\w+ = new int\\[[A-Z_ *]+\\];| {8}\\w+ = new [A-Z]\\w*\\(\\);"));
            }
        }
    }

    private static List<String> found(Pattern pattern, String text) {
        List<String> found = new ArrayList<>();
        Matcher matcher = pattern.matcher(text);
        while (matcher.find()) {
            found.add(matcher.group(1).strip());
        }
        return found;
    }

    private static List<Class<?>> allClasses() {
        List<Class<?>> classes = new ArrayList<>();
        classes.add(Multidell.class);
        for (int next = 0; next < classes.size(); next++) {
            classes.addAll(List.of(classes.get(next).getDeclaredClasses()));
        }
        return classes;
    }

    private static List<Executable> callsOf(Class<?> type) {
        List<Executable> calls = new ArrayList<>(List.of(type.getDeclaredMethods()));
        calls.addAll(List.of(type.getDeclaredConstructors()));
        return calls;
    }
}
