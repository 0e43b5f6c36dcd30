import java.util.concurrent.Callable;

/** Compares answers with those that are due; an exception counts by its very class. */
final class Due {
    private int wrong = 0;

    interface Step {
        void run();
    }

    static String answerOf(Callable<?> call) {
        try {
            return String.valueOf(call.call());
        } catch (Exception e) {
            return e.getClass().getSimpleName();
        }
    }

    static String answerOf(Step step) {
        return answerOf(
                () -> {
                    step.run();
                    return "done";
                });
    }

    void is(String what, Object want, Callable<?> call) {
        same(what, String.valueOf(want), answerOf(call));
    }

    void isDone(String what, Step step) {
        same(what, "done", answerOf(step));
    }

    void refuses(String what, Class<? extends RuntimeException> want, Callable<?> call) {
        same(what, want.getSimpleName(), answerOf(call));
    }

    void refusesStep(String what, Class<? extends RuntimeException> want, Step step) {
        same(what, want.getSimpleName(), answerOf(step));
    }

    void same(String what, String want, String got) {
        if (!want.equals(got)) {
            wrong++;
            if (wrong <= 50) {
                System.out.println(what + " answered " + got + ", due is " + want);
            }
        }
    }

    int wrong() {
        return wrong;
    }

    void end() {
        System.out.println(wrong == 0 ? "all answers are as due" : wrong + " answers are not as due");
        if (wrong != 0) {
            System.exit(1);
        }
    }
}
