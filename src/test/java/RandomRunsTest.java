import java.lang.reflect.InvocationTargetException;
import java.lang.reflect.Method;
import java.lang.reflect.Modifier;
import java.util.ArrayList;
import java.util.Arrays;
import java.util.List;
import java.util.Map;
import java.util.Random;
import java.util.TreeMap;

/**
 * Runs of up to 512 calls, drawn with fixed seeds, on the class and on the model side by side: each
 * call has to answer, or throw, the same. What the runs came across is counted, so that a run that
 * never meets a lost copy, say, does not pass for a test of one.
 */
public final class RandomRunsTest {
    private static final int RUNS = 1500;
    private static final int MOST_CALLS = 512;
    private static final String[] ASKING = {"distance", "nextHop", "rendezvous", "members",
        "switched", "branches", "sourceBranches", "leaving", "queued", "nextTo", "received",
        "doubles", "wasted", "clock", "floodMembers", "floodCopies"};
    private static final Map<String, Method> REAL = methodsOf(Multidell.class);
    private static final Map<String, Method> MODEL = methodsOf(Model.class);
    private static final Map<String, Integer> SEEN = new TreeMap<>();

    private final Random random;
    private final Multidell real = new Multidell();
    private final Model model = new Model();
    private final List<String> calls = new ArrayList<>();
    private final int routers;
    private final int groups;
    private final int links;
    private final int wildness;
    private final int haste;
    private final boolean sendsMuch;
    private int sent;
    private boolean wrong;

    private RandomRunsTest(int seed) {
        random = new Random(seed);
        routers = 3 + random.nextInt(8);
        groups = 1 + random.nextInt(4);
        links = routers + random.nextInt(routers * 2);
        wildness = random.nextInt(12);
        haste = 1 + random.nextInt(6);
        sendsMuch = random.nextInt(4) == 0;
    }

    public static void main(String[] args) {
        for (int seed = 0; seed < RUNS; seed++) {
            new RandomRunsTest(seed).run();
        }
        for (String due : new String[] {"follow 0", "follow 1", "follow 2", "follow 3", "follow 4",
            "queue was full", "200 packets sent", "some switched", "some doubles", "branches went",
            "some wasted", "no rendezvous point", "throws java.lang.IllegalStateException",
            "throws java.lang.IllegalArgumentException", "throws java.lang.IndexOutOfBoundsException"}) {
            Check.same("the runs met: " + due, true, SEEN.getOrDefault(due, 0) >= 50);
        }
        System.out.println(SEEN);
        Check.end();
    }

    private static Map<String, Method> methodsOf(Class<?> type) {
        Map<String, Method> methods = new TreeMap<>();
        for (Method method : type.getDeclaredMethods()) {
            if (Modifier.isPublic(method.getModifiers())) {
                methods.put(method.getName(), method);
            }
        }
        return methods;
    }

    private void run() {
        begin();
        while (!wrong && calls.size() < MOST_CALLS - 90) {
            step();
        }
        while (!wrong && calls.size() < MOST_CALLS) {
            call(ASKING[random.nextInt(ASKING.length)]);
        }
    }

    private void begin() {
        for (int link = 0; link < links; link++) {
            call("setLink", random.nextInt(routers), random.nextInt(routers), 1 + random.nextInt(20));
        }
        for (int candidate = random.nextInt(4); candidate > 0; candidate--) {
            call("setCandidate", random.nextInt(routers), true);
        }
        for (int member = random.nextInt(routers * groups); member >= 0; member--) {
            call("join", random.nextInt(routers), random.nextInt(groups));
        }
        call("setLimit", 1 + random.nextInt(4));
    }

    private void step() {
        int kind = random.nextInt(100);
        if (sendsMuch && random.nextInt(2) == 0) {
            call("send");
        } else if (kind < 4 + wildness) {
            call(random.nextInt(3) == 0 ? "setCandidate" : "setLink");
        } else if (kind < 28) {
            call(random.nextBoolean() ? "join" : "leave");
        } else if (kind < 58) {
            call("send");
        } else if (kind < 60) {
            call("setLimit");
        } else if (kind < 68) {
            call("pass");
        } else if (kind < 70 && random.nextInt(haste) == 0) {
            call("followAll");
        } else if (kind < 85) {
            call("follow");
        } else {
            call(ASKING[random.nextInt(ASKING.length)]);
        }
    }

    private void call(String name) {
        Method method = REAL.get(name);
        Object[] arguments = new Object[method.getParameterCount()];
        for (int place = 0; place < arguments.length; place++) {
            arguments[place] = argument(name, place, method.getParameterTypes()[place]);
        }
        call(name, arguments);
    }

    private Object argument(String name, int place, Class<?> type) {
        if (type == boolean.class) {
            return random.nextInt(5) < 3;
        }
        boolean odd = random.nextInt(60) == 0;
        return switch (name) {
            case "setLimit" -> odd ? random.nextInt(140) - 20 : 1 + random.nextInt(5);
            case "pass" -> odd ? random.nextInt(140) - 20 : 1 + random.nextInt(4);
            case "received", "doubles" -> random.nextInt(sent + 2) - 1;
            case "setLink" -> place == 2 ? cost(odd) : router(odd);
            case "sourceBranches" -> place == 2 ? group(odd) : router(odd);
            case "distance", "nextHop" -> router(odd);
            case "rendezvous", "members" -> group(odd);
            default -> place == 1 ? group(odd) : router(odd);
        };
    }

    private int cost(boolean odd) {
        if (odd) {
            return random.nextInt(60) - 20;
        }
        return random.nextInt(3) == 0 ? 0 : 1 + random.nextInt(20);
    }

    private int router(boolean odd) {
        return odd ? random.nextInt(14) - 2 : random.nextInt(routers);
    }

    private int group(boolean odd) {
        return odd ? random.nextInt(8) - 2 : random.nextInt(groups);
    }

    private void call(String name, Object... arguments) {
        if (wrong || calls.size() >= MOST_CALLS) {
            return;
        }
        String due = answer(MODEL.get(name), model, arguments);
        String got = answer(REAL.get(name), real, arguments);
        calls.add(name + Arrays.toString(arguments) + " " + due);
        if (!due.equals(got)) {
            wrong = true;
            System.out.println(String.join("\n", calls));
        }
        Check.same(name, due, got);
        note(name, due);
    }

    private void note(String name, String answer) {
        if (answer.startsWith("throws")) {
            seen(answer);
            seenIf(name.equals("send") && answer.endsWith("IllegalStateException"), "200 packets sent");
            return;
        }
        seenIf(model.queued() == 200, "queue was full");
        switch (name) {
            case "follow" -> seen("follow " + answer);
            case "send" -> sent++;
            case "switched" -> seenIf(!answer.equals("0"), "some switched");
            case "doubles" -> seenIf(!answer.equals("0"), "some doubles");
            case "wasted" -> seenIf(!answer.equals("0"), "some wasted");
            case "pass" -> seenIf(!answer.equals("0"), "branches went");
            case "rendezvous" -> seenIf(answer.equals("-1"), "no rendezvous point");
            default -> { }
        }
    }

    private static void seenIf(boolean is, String what) {
        if (is) {
            seen(what);
        }
    }

    private static void seen(String what) {
        SEEN.merge(what, 1, Integer::sum);
    }

    private static String answer(Method method, Object target, Object[] arguments) {
        try {
            return String.valueOf(method.invoke(target, arguments));
        } catch (InvocationTargetException thrown) {
            return "throws " + thrown.getCause().getClass().getName();
        } catch (IllegalAccessException impossible) {
            return "cannot be called";
        }
    }
}
