import java.util.function.Consumer;

/** What the tests share: counting, comparing, and telling what differs. */
final class Check {
    private static final int[] ROUTER_EDGES = {-1, 10, Integer.MIN_VALUE, Integer.MAX_VALUE};
    private static final int[] GROUP_EDGES = {-1, 4, Integer.MIN_VALUE, Integer.MAX_VALUE};

    private static int checks;
    private static int wrong;

    private Check() {
    }

    static int[] noRouters() {
        return ROUTER_EDGES.clone();
    }

    static int[] noGroups() {
        return GROUP_EDGES.clone();
    }

    static void same(String what, long due, long got) {
        checks++;
        if (due != got) {
            wrong++;
            System.out.println(what + ": answered " + got + ", due is " + due);
        }
    }

    static void same(String what, boolean due, boolean got) {
        same(what, due ? 1 : 0, got ? 1 : 0);
    }

    static void same(String what, String due, String got) {
        checks++;
        if (!due.equals(got)) {
            wrong++;
            System.out.println(what + ": answered " + got + ", due is " + due);
        }
    }

    /**
     * The call throws just this exception, and changes nothing: every question is put to an object
     * of its own that had the failing call and to one that had not, so that none is used too long.
     */
    static void refused(String what, Class<? extends RuntimeException> due,
            Consumer<Multidell> before, Consumer<Multidell> call) {
        same(what + " throws", due.getName(), nameOfThrown(made(before), call));
        for (int question = 0; question < Question.count(); question++) {
            Multidell tried = made(before);
            nameOfThrown(tried, call);
            same(what + " leaves " + Question.name(question),
                    Question.ask(made(before), question), Question.ask(tried, question));
        }
    }

    static Multidell made(Consumer<Multidell> before) {
        Multidell net = new Multidell();
        before.accept(net);
        return net;
    }

    private static String nameOfThrown(Multidell net, Consumer<Multidell> call) {
        try {
            call.accept(net);
            return "nothing";
        } catch (RuntimeException thrown) {
            return thrown.getClass().getName();
        }
    }

    static int set(int... routers) {
        int set = 0;
        for (int router : routers) {
            set |= 1 << router;
        }
        return set;
    }

    /** Ends the program: with 1 if something was not as due, or nothing was looked at. */
    static void end() {
        System.out.println(checks + " answers looked at, " + wrong + " not as due");
        if (wrong != 0 || checks == 0) {
            System.exit(1);
        }
    }
}
