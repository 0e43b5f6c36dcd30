import java.lang.reflect.InvocationTargetException;
import java.lang.reflect.Method;
import java.util.Arrays;
import java.util.Comparator;
import java.util.concurrent.Callable;

/** Compares answers with those that are due; an exception counts by its very class. */
final class Due {
    static final Class<IllegalArgumentException> UNKNOWN = IllegalArgumentException.class;
    static final Class<IndexOutOfBoundsException> RANGE = IndexOutOfBoundsException.class;
    static final Class<IllegalStateException> STATE = IllegalStateException.class;
    static final Class<UnsupportedOperationException> NO_ROOM = UnsupportedOperationException.class;

    private static final int MOST_TOLD = 50;

    private int wrong = 0;
    private String test = "";

    interface Step {
        void run();
    }

    static String answerOf(Callable<?> call) {
        try {
            return String.valueOf(call.call());
        } catch (Exception e) {
            return e.getClass().getSimpleName();
        }
    }

    static String answerOf(Step step) {
        return answerOf(
                () -> {
                    step.run();
                    return "done";
                });
    }

    /** Runs each method that is marked with Says; one that breaks off does not stop the others. */
    void runTestsOf(Object tests) {
        Method[] methods = tests.getClass().getDeclaredMethods();
        Arrays.sort(methods, Comparator.comparing(Method::getName));
        for (Method method : methods) {
            Says says = method.getAnnotation(Says.class);
            if (says != null) {
                test = method.getName() + " (\"" + says.value() + "\"): ";
                runTest(tests, method);
            }
        }
        test = "";
    }

    private void runTest(Object tests, Method method) {
        try {
            method.invoke(tests);
        } catch (InvocationTargetException e) {
            same("a call that must be taken", "no exception", String.valueOf(e.getCause()));
        } catch (IllegalAccessException e) {
            same("a test that can't be called", "no exception", String.valueOf(e));
        }
    }

    void is(String what, Object want, Callable<?> call) {
        same(what, String.valueOf(want), answerOf(call));
    }

    void isDone(String what, Step step) {
        same(what, "done", answerOf(step));
    }

    void refuses(String what, Class<? extends RuntimeException> want, Callable<?> call) {
        same(what, want.getSimpleName(), answerOf(call));
    }

    void refusesStep(String what, Class<? extends RuntimeException> want, Step step) {
        same(what, want.getSimpleName(), answerOf(step));
    }

    /** The persons on the seats of the latest plan, in their order. */
    void seats(String what, TrainingRows x, int... persons) {
        for (int seat = 0; seat < persons.length; seat++) {
            int place = seat;
            is(what + ", seat " + seat, persons[seat], () -> x.seated(place));
        }
    }

    void same(String what, String want, String got) {
        if (!want.equals(got)) {
            wrong++;
            if (wrong <= MOST_TOLD) {
                System.out.println(test + what + " answered " + got + ", due is " + want);
            }
        }
    }

    int wrong() {
        return wrong;
    }

    void end() {
        System.out.println(wrong == 0 ? "all answers are as due" : wrong + " answers are not as due");
        if (wrong != 0) {
            System.exit(1);
        }
    }
}
