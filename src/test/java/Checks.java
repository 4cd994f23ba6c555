/** What the tests share: they compare answers, print each wrong one, and end with exit code 1 if there was one. */
final class Checks {
    interface Call {
        Object answer();
    }

    private final String name;
    private int done;
    private int wrong;

    Checks(String name) {
        this.name = name;
    }

    void due(String call, Object got, Object want) {
        done++;
        if (!want.equals(got)) {
            wrong++;
            System.out.println(name + ": " + call + " answered " + got + ", due is " + want);
        }
    }

    /** The very class is compared: a class below the documented one is another answer. */
    void dueThrow(String call, Class<? extends RuntimeException> want, Call run) {
        due(call, answerOf(run), "throws " + want.getSimpleName());
    }

    static Object answerOf(Call run) {
        try {
            return run.answer();
        } catch (RuntimeException thrown) {
            return "throws " + thrown.getClass().getSimpleName();
        }
    }

    boolean holds() {
        return wrong == 0 && done > 0;
    }

    void end() {
        System.out.println(name + ": " + done + " answers, " + wrong + " not as due");
        if (!holds()) {
            System.exit(1);
        }
    }
}
