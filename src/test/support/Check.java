/** Counts and prints answers that are not the due ones. */
public final class Check {
    private static int checks = 0;
    private static int wrong = 0;
    private static String sentence = "";

    private Check() {
    }

    /**
     * Runs the test of one sentence (or a part of one) of the document, and names it in all that is printed.
     *
     * @param part the heading under which it stands, such as "Promise 2"
     */
    public static void sentence(String part, String words, Runnable test) {
        sentence = part + ", \"" + words + "\": ";
        int checksBefore = checks;
        int wrongBefore = wrong;
        if (!Document.says(part, words)) {
            report("the document has no such words there");
        }
        try {
            test.run();
        } catch (RuntimeException e) {
            report("the test was ended by " + e);
        }
        if (checks == checksBefore) {
            report("nothing was checked");
        }
        System.out.println((wrong == wrongBefore ? "  holds: " : "  BROKEN: ") + part + ", \"" + words + "\"");
        sentence = "";
    }

    public static void due(String call, long want, long got) {
        checks++;
        if (got != want) {
            report(call + " answered " + got + ", due is " + want);
        }
    }

    public static void due(String call, double want, double got) {
        checks++;
        if (Double.compare(got, want) != 0) {
            report(call + " answered " + got + ", due is " + want);
        }
    }

    public static void due(String call, String want, String got) {
        checks++;
        if (!want.equals(got)) {
            report(call + " is " + got + ", due is " + want);
        }
    }

    /** The call must throw exactly this class, and leave the object as it was. */
    public static void refused(String call, Class<? extends RuntimeException> want, HailLeague x, Runnable run) {
        long before = x.digest();
        String got = "nothing";
        try {
            run.run();
        } catch (RuntimeException e) {
            got = e.getClass().getName();
        }
        due(call + " throws", want.getName(), got);
        due(call + " leaves digest()", before, x.digest());
    }

    public static void illegalArgument(String call, HailLeague x, Runnable run) {
        refused(call, IllegalArgumentException.class, x, run);
    }

    public static void illegalState(String call, HailLeague x, Runnable run) {
        refused(call, IllegalStateException.class, x, run);
    }

    public static void outOfBounds(String call, HailLeague x, Runnable run) {
        refused(call, IndexOutOfBoundsException.class, x, run);
    }

    private static void report(String text) {
        wrong++;
        if (wrong <= 50) {
            System.out.println("WRONG: " + sentence + text);
        }
    }

    /** Ends the test: with exit code 1 if an answer was wrong. */
    public static void end() {
        System.out.println(checks + " checks, " + wrong + " wrong");
        if (wrong != 0 || checks == 0) {
            System.exit(1);
        }
    }
}
