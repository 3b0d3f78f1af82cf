import java.lang.reflect.Constructor;
import java.lang.reflect.Field;
import java.lang.reflect.Method;
import java.lang.reflect.Modifier;
import java.util.ArrayList;
import java.util.List;
import java.util.Map;
import java.util.Set;
import java.util.TreeMap;
import java.util.TreeSet;

/**
 * "The public face" and the constants: the class has each constant with its value, the constructor, and
 * each method with its parameters, its answer's type and its throws clause, and no other public,
 * protected or package-visible member but the classes inside it.
 */
public final class FaceTest {
    /** The face as the document tells it, in its order: the place in this row is the promise less 2. */
    private static final String[] METHODS = {
        "int setLink(int router, int other, int cost)"
            + " throws IndexOutOfBoundsException, IllegalArgumentException",
        "boolean setCandidate(int router, boolean isCandidate) throws IndexOutOfBoundsException",
        "int setLimit(int limit) throws IllegalArgumentException",
        "int distance(int router, int other) throws IndexOutOfBoundsException",
        "int nextHop(int router, int other) throws IndexOutOfBoundsException",
        "int rendezvous(int group) throws IndexOutOfBoundsException",
        "int join(int router, int group) throws IndexOutOfBoundsException, IllegalStateException",
        "int leave(int router, int group) throws IndexOutOfBoundsException, IllegalStateException",
        "int members(int group) throws IndexOutOfBoundsException",
        "int switched(int source, int group) throws IndexOutOfBoundsException",
        "int branches(int router, int group) throws IndexOutOfBoundsException",
        "int sourceBranches(int router, int source, int group) throws IndexOutOfBoundsException",
        "int leaving()",
        "int send(int source, int group) throws IndexOutOfBoundsException, IllegalStateException",
        "int follow()",
        "int followAll()",
        "int queued()",
        "int nextTo()",
        "int received(int packet) throws IndexOutOfBoundsException",
        "int doubles(int packet) throws IndexOutOfBoundsException",
        "int wasted()",
        "int pass(int seconds) throws IllegalArgumentException",
        "int clock()",
        "int floodMembers(int source, int group) throws IndexOutOfBoundsException",
        "int floodCopies(int source) throws IndexOutOfBoundsException"};

    private FaceTest() {
    }

    public static void main(String[] args) throws IllegalAccessException {
        theClass();
        theConstants();
        theConstructor();
        theMethods();
        theMethodsAsWritten();
        theClassesInside();
        Check.end();
    }

    private static void theClass() {
        Check.sentence(1, "public final class Multidell");
        Check.same("modifiers", "public final", Modifier.toString(Multidell.class.getModifiers()));
        Check.same("package", "", Multidell.class.getPackageName());
        Check.same("what it extends", "java.lang.Object", Multidell.class.getSuperclass().getName());
        Check.same("what it implements", 0, Multidell.class.getInterfaces().length);
        Check.same("type parameters", 0, Multidell.class.getTypeParameters().length);
    }

    private static void theConstants() throws IllegalAccessException {
        Check.sentence(1, "NONE = -1, NOTHING = 0, LOST = 1, DROPPED = 2, PASSED = 3, RECEIVED = 4");
        Map<String, Integer> due = Map.of("NONE", -1, "NOTHING", 0, "LOST", 1, "DROPPED", 2, "PASSED", 3,
                "RECEIVED", 4);
        Map<String, String> told = new TreeMap<>();
        due.forEach((name, value) -> told.put(name, "public static final int " + name + " = " + value));
        Map<String, String> got = new TreeMap<>();
        for (Field field : Multidell.class.getDeclaredFields()) {
            if (isSeenOutside(field.getModifiers())) {
                boolean readable = Modifier.isPublic(field.getModifiers())
                        && Modifier.isStatic(field.getModifiers());
                got.put(field.getName(), Modifier.toString(field.getModifiers()) + " "
                        + field.getType().getSimpleName() + " " + field.getName() + " = "
                        + (readable ? field.get(null) : "?"));
            }
        }
        Check.same("all that is seen outside", told.toString(), got.toString());
    }

    private static void theConstructor() {
        Check.sentence(1, "public Multidell()");
        Constructor<?>[] all = Multidell.class.getDeclaredConstructors();
        Check.same("how many", 1, all.length);
        Check.same("modifiers", "public", Modifier.toString(all[0].getModifiers()));
        Check.same("parameters", 0, all[0].getParameterCount());
        Check.same("throws clause", 0, all[0].getExceptionTypes().length);
    }

    private static void theMethods() {
        Map<String, String> seen = new TreeMap<>();
        Set<String> hidden = new TreeSet<>();
        for (Method method : Multidell.class.getDeclaredMethods()) {
            if (isSeenOutside(method.getModifiers())) {
                String before = seen.put(method.getName(), told(method));
                Check.same("two of the name " + method.getName(), true, before == null);
            } else {
                hidden.add(method.getName());
            }
        }
        for (int place = 0; place < METHODS.length; place++) {
            String due = METHODS[place];
            String name = due.replaceAll("^\\w+ (\\w+).*", "$1");
            Check.sentence(place + 2, due);
            Check.same("the method", "public " + due.replaceAll("(int|boolean) \\w+([,)])", "$1$2"),
                    String.valueOf(seen.remove(name)));
            Check.same("a private method of its name", false, hidden.contains(name));
        }
        Check.same("methods that the face has not", "{}", seen.toString());
    }

    /** The class file keeps no names of parameters, so these are looked up in the class's text. */
    private static void theMethodsAsWritten() {
        String code = Source.code();
        for (int place = 0; place < METHODS.length; place++) {
            Check.sentence(place + 2, METHODS[place]);
            Check.same("is written so", true, code.contains(" public " + METHODS[place] + " {"));
        }
    }

    private static void theClassesInside() {
        Check.sentence(1, "no other public, protected or package-visible member, but .. the classes inside");
        for (Class<?> inside : Multidell.class.getDeclaredClasses()) {
            int modifiers = inside.getModifiers();
            Check.same(inside.getName() + " is public or protected", false,
                    Modifier.isPublic(modifiers) || Modifier.isProtected(modifiers));
            Check.same(inside.getName() + " is static", true, Modifier.isStatic(modifiers));
        }
        Check.same("classes that the class file shows", 0, Multidell.class.getClasses().length);
    }

    private static boolean isSeenOutside(int modifiers) {
        return !Modifier.isPrivate(modifiers);
    }

    private static String told(Method method) {
        String parameters = String.join(", ", simpleNames(method.getParameterTypes()));
        String exceptions = String.join(", ", simpleNames(method.getExceptionTypes()));
        return Modifier.toString(method.getModifiers()) + " " + method.getReturnType().getSimpleName() + " "
                + method.getName() + "(" + parameters + ")"
                + (exceptions.isEmpty() ? "" : " throws " + exceptions);
    }

    private static List<String> simpleNames(Class<?>[] types) {
        List<String> names = new ArrayList<>();
        for (Class<?> type : types) {
            names.add(type.getSimpleName());
        }
        return names;
    }
}
