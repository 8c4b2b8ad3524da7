/** Compares answers with those that are due, prints the wrong ones, and ends with exit code 1 if there was one. */
final class Check {
    interface Call {
        long run();
    }

    private int calls = 0;
    private int wrong = 0;

    void due(String what, long want, Call call) {
        tell(what, String.valueOf(want), answer(call));
    }

    /** The class must be the very one: what the machine throws by itself is often a class below it. */
    void refused(String what, Class<? extends RuntimeException> want, Call call) {
        tell(what, thrown(want), answer(call));
    }

    void tell(String what, String want, String got) {
        calls++;
        if (!want.equals(got)) {
            wrong++;
            System.out.println(what + " answered " + got + ", due is " + want);
        }
    }

    static String answer(Call call) {
        try {
            return String.valueOf(call.run());
        } catch (RuntimeException e) {
            return thrown(e.getClass());
        }
    }

    private static String thrown(Class<?> kind) {
        return "throws." + kind.getName();
    }

    void end() {
        System.out.println(calls + " answers, " + wrong + " wrong");
        if (wrong != 0 || calls == 0) {
            System.exit(1);
        }
    }
}
