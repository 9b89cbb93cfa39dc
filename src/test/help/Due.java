import java.lang.reflect.InvocationTargetException;
import java.lang.reflect.Method;
import java.util.Arrays;
import java.util.Comparator;

/** Runs every method of a class that bears a Sentence, and counts the answers that are not as due. */
final class Due {
    static final int NUMBER = -1;
    static final int FULL = -2;
    static final int TWICE = -3;
    static final int NONE = -4;
    static final int NOTHING = -1000000;
    static final int MIN = Integer.MIN_VALUE;
    static final int MAX = Integer.MAX_VALUE;

    private static int wrong = 0;
    private static int asked = 0;
    private static String place = "";

    private Due() { }

    static void is(String call, int got, int want) {
        asked++;
        if (got != want) {
            fault(call + " answered " + got + ", due is " + want);
        }
    }

    static void fault(String what) {
        wrong++;
        System.out.println(place + ": " + what);
    }

    /** Methods are found by their mark, so that none can be written and then not be run. */
    static void runAll(Class<?> tests) {
        Method[] methods = tests.getDeclaredMethods();
        Arrays.sort(methods, Comparator.comparing(Method::getName));
        int sentences = 0;
        for (Method method : methods) {
            Sentence sentence = method.getAnnotation(Sentence.class);
            if (sentence != null) {
                sentences++;
                place = method.getName() + " (" + sentence.in() + ", \"" + sentence.says() + "\")";
                run(method);
            }
        }
        if (sentences == 0) {
            fault(tests.getName() + " has no test");
        }
        System.out.println(tests.getName() + ": " + sentences + " tests, " + asked + " answers, " + wrong + " wrong");
        if (wrong != 0) {
            System.exit(1);
        }
    }

    private static void run(Method method) {
        int askedBefore = asked;
        try {
            method.setAccessible(true);
            method.invoke(null);
        } catch (InvocationTargetException e) {
            fault("threw " + e.getCause());
        } catch (ReflectiveOperationException e) {
            fault("can't be run: " + e);
        }
        if (asked == askedBefore) {
            fault("asks nothing");
        }
    }
}
