/** What the tests share: counting, comparing, and telling what differs. */
final class Check {
    private static final int ENOUGH_WRONG = 40;
    private static final long MOST_MILLISECONDS = 300_000;

    private static int checks;
    private static int wrong;
    private static String sentence = "";
    private static int checksBefore;

    // A class that is wrong may never end a loop; the test that meets it ends and fails all the same.
    static {
        Thread watch = new Thread(Check::endWhenItLastsTooLong);
        watch.setDaemon(true);
        watch.start();
    }

    private Check() {
    }

    /** From here on the looks are about this sentence of the document; each one named must get a look. */
    static void sentence(int promise, String words) {
        endSentence();
        sentence = "promise " + promise + ", \"" + words + "\": ";
        checksBefore = checks;
    }

    private static void endSentence() {
        if (!sentence.isEmpty() && checks == checksBefore) {
            wrong++;
            System.out.println(sentence + "nothing was looked at");
        }
    }

    static void same(String what, long due, long got) {
        checks++;
        if (due != got) {
            tellWrong(what, String.valueOf(due), String.valueOf(got));
        }
    }

    static void same(String what, boolean due, boolean got) {
        same(what, due ? 1 : 0, got ? 1 : 0);
    }

    static void same(String what, String due, String got) {
        checks++;
        if (!due.equals(got)) {
            tellWrong(what, due, got);
        }
    }

    /** The call throws an exception of just this class; what it leaves behind is looked at by State. */
    static void throwing(String what, Class<? extends RuntimeException> due, Runnable call) {
        same(what + " throws", due.getName(), nameOfThrown(call));
    }

    static String nameOfThrown(Runnable call) {
        try {
            call.run();
            return "nothing";
        } catch (RuntimeException thrown) {
            return thrown.getClass().getName();
        }
    }

    private static void tellWrong(String what, String due, String got) {
        wrong++;
        System.out.println(sentence + what + ": answered " + got + ", due is " + due);
        if (wrong >= ENOUGH_WRONG) {
            end();
        }
    }

    private static void endWhenItLastsTooLong() {
        try {
            Thread.sleep(MOST_MILLISECONDS);
        } catch (InterruptedException nobodyDoesThat) {
            return;
        }
        System.out.println(sentence + "no end after " + MOST_MILLISECONDS + " milliseconds");
        Runtime.getRuntime().halt(1);
    }

    static int set(int... routers) {
        int set = 0;
        for (int router : routers) {
            set |= 1 << router;
        }
        return set;
    }

    /** Ends the program: with 1 if something was not as due, or nothing was looked at. */
    static void end() {
        endSentence();
        System.out.println(checks + " answers looked at, " + wrong + " not as due");
        if (wrong != 0 || checks == 0) {
            System.exit(1);
        }
    }
}
