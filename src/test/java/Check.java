import java.util.LinkedHashSet;
import java.util.Set;

/** Counts answers that are not as due, and ends a test with exit code 1 if there was one. */
final class Check {
    interface Call {
        Object run();
    }

    private static final int SHOWN = 40;

    private final String name;
    private final Set<String> said = new LinkedHashSet<>();
    private String sentence = "";
    private int asked;
    private int wrong;

    Check(String name) {
        this.name = name;
    }

    /** What is asked from here on is asked for this sentence of the document. */
    void says(String place, String words) {
        sentence = place + ": " + words;
        said.add(sentence);
    }

    /** All sentences that were asked for; what is asked from here on is asked for none. */
    Set<String> said() {
        sentence = "";
        return said;
    }

    void due(String call, Object want, Call made) {
        Object got = answer(made);
        asked++;
        if (!want.equals(got)) {
            wrong++;
            if (wrong <= SHOWN) {
                System.out.println(name + ": " + call + " answered " + got + ", due is " + want);
                if (!sentence.isEmpty()) {
                    System.out.println("  where the document says of " + sentence);
                }
            }
        }
    }

    void due(Object want, Call made) {
        due("call " + (asked + 1) + " at " + line(), want, made);
    }

    void index(Call made) {
        due("call " + (asked + 1) + " at " + line(), "throws.IndexOutOfBoundsException", made);
    }

    void argument(Call made) {
        due("call " + (asked + 1) + " at " + line(), "throws.IllegalArgumentException", made);
    }

    void state(Call made) {
        due("call " + (asked + 1) + " at " + line(), "throws.IllegalStateException", made);
    }

    int wrongs() {
        return wrong;
    }

    void end() {
        System.out.println(name + ": " + asked + " answers looked at, " + wrong + " not as due");
        if (wrong != 0) {
            System.exit(1);
        }
    }

    /** An exception's exact class counts: one that the machine throws has a class of its own. */
    static Object answer(Call made) {
        try {
            return made.run();
        } catch (RuntimeException e) {
            return "throws." + e.getClass().getSimpleName();
        }
    }

    private static String line() {
        for (StackTraceElement at : Thread.currentThread().getStackTrace()) {
            String in = at.getClassName();
            if (!in.equals("Check") && !in.equals("Cases") && !in.startsWith("java.")) {
                return at.getFileName() + ":" + at.getLineNumber();
            }
        }
        return "?";
    }
}
