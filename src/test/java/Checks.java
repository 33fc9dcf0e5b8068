import java.lang.reflect.Method;
import java.util.Arrays;
import java.util.Comparator;

/** What the tests share: tables made from a text, and a count of the answers that are not due. */
final class Checks {
    static final int UNKNOWN = -1, BAD = -2, LATE = -3, FULL = -4, NONE = -9;

    private int asked;
    private int wrong;

    void due(String call, long got, long want) {
        asked++;
        if (got != want) {
            wrong++;
            System.out.println(call + " answered " + got + ", due is " + want);
        }
    }

    /** Runs each test of a class that says what it stands for; of one that fails the document's words are told. */
    void run(Class<?> tests) throws ReflectiveOperationException {
        Method[] methods = tests.getDeclaredMethods();
        Arrays.sort(methods, Comparator.comparing(Method::getName));
        for (Method method : methods) {
            Says says = method.getAnnotation(Says.class);
            if (says != null) {
                int askedBefore = asked;
                int wrongBefore = wrong;
                method.invoke(null);
                due("a test that asks nothing: " + method.getName(), asked == askedBefore ? 1 : 0, 0);
                if (wrong != wrongBefore) {
                    System.out.println("  so it does not hold: " + String.join(" ", says.value())
                        + (says.by().isEmpty() ? "" : " - " + says.by()));
                }
            }
        }
    }

    /** Ends the test's process with exit code 1 if an answer was wrong. */
    void end(String test) {
        System.out.println(test + ": " + asked + " answers, " + wrong + " wrong");
        if (wrong != 0) {
            System.exit(1);
        }
    }

    /** A new object with that text written, and no table made of it yet. */
    static KnowsBetter written(String text) {
        KnowsBetter made = new KnowsBetter();
        rewrite(made, text);
        return made;
    }

    static void rewrite(KnowsBetter made, String text) {
        made.wipe();
        for (int i = 0; i < text.length(); i++) {
            made.write(text.charAt(i));
        }
    }

    /** A new object whose table that text is, with nothing else done. */
    static KnowsBetter table(String text) {
        KnowsBetter made = written(text);
        made.table();
        return made;
    }
}
