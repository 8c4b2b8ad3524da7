/** Compares answers with those that are due, prints the wrong ones, and ends with exit code 1 if there was one. */
final class Check {
    interface Call {
        long run();
    }

    private String sentence = "";
    private int callsOfSentence = 1;
    private int sentences = 0;
    private int calls = 0;
    private int wrong = 0;

    /** The words of the document that the calls from here on look at: a wrong answer is told with them. */
    void sentence(String words) {
        endSentence();
        sentence = words;
        callsOfSentence = 0;
        sentences++;
    }

    private void endSentence() {
        if (callsOfSentence == 0) {
            wrong++;
            System.out.println(sentence + " | nothing was looked at");
        }
    }

    void due(String what, long want, Call call) {
        tell(what, String.valueOf(want), answer(call));
    }

    /** The class must be the very one: what the machine throws by itself is often a class below it. */
    void refused(String what, Class<? extends RuntimeException> want, Call call) {
        tell(what, thrown(want), answer(call));
    }

    void tell(String what, String want, String got) {
        calls++;
        callsOfSentence++;
        if (!want.equals(got)) {
            wrong++;
            String where = sentence.isEmpty() ? what : sentence + " | " + what;
            System.out.println(where + " answered " + got + ", due is " + want);
        }
    }

    static String answer(Call call) {
        try {
            return String.valueOf(call.run());
        } catch (RuntimeException e) {
            return thrown(e.getClass());
        }
    }

    private static String thrown(Class<?> kind) {
        return "throws." + kind.getName();
    }

    void end() {
        endSentence();
        String looked = sentences == 0 ? "" : sentences + " sentences, ";
        System.out.println(looked + calls + " answers, " + wrong + " wrong");
        if (wrong != 0 || calls == 0) {
            System.exit(1);
        }
    }
}
