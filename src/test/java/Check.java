/** Counts the answers that are not the ones that are due, and prints them. */
final class Check {
    static final Class<IndexOutOfBoundsException> INDEX = IndexOutOfBoundsException.class;
    static final Class<IllegalArgumentException> ARGUMENT = IllegalArgumentException.class;
    static final Class<IllegalStateException> STATE = IllegalStateException.class;

    interface Call {
        Object answer();
    }

    interface CallWith {
        Object answer(int number);
    }

    private final String name;
    private int asked;
    private int wrong;
    private String sentence = "";
    private int askedAhead;

    Check(String name) {
        this.name = name;
    }

    /** The answers from here on are those of that sentence under the document's Terms, or of what it is. */
    void says(String words) {
        turnTo(words);
    }

    /** The answers from here on are those of that line of that promise. */
    void says(int promise, String line) {
        turnTo("promise " + promise + ", " + line);
    }

    private void turnTo(String next) {
        if (!sentence.isEmpty() && asked == askedAhead) {
            wrong++;
            System.out.println(name + ": nothing is asked of: " + sentence);
        }
        sentence = next;
        askedAhead = asked;
    }

    void due(String call, Object want, Object got) {
        asked++;
        if (!want.equals(got)) {
            wrong++;
            System.out.println(name + ": " + call + " answered " + got + ", due is " + want
                    + (sentence.isEmpty() ? "" : " [" + sentence + "]"));
        }
    }

    /** The call must throw that class itself, by a throw of the program. */
    void fails(String call, Class<? extends RuntimeException> want, Call made) {
        due(call, "throws." + want.getSimpleName(), outcome(made));
    }

    /** The call must be answered, by whatever. */
    void answers(String call, Call made) {
        Object got = outcome(made);
        due(call, "an answer", isRefusal(got) ? got : "an answer");
    }

    /** Answered with the first and the last number in range; not with those next to them, nor far from them. */
    void range(String call, int least, int most, Class<? extends RuntimeException> beyond, CallWith made) {
        answers(call + " " + least, () -> made.answer(least));
        answers(call + " " + most, () -> made.answer(most));
        int[] outside = {least - 1, most + 1, Integer.MIN_VALUE, Integer.MAX_VALUE};
        for (int number : outside) {
            fails(call + " " + number, beyond, () -> made.answer(number));
        }
    }

    static boolean isRefusal(Object outcome) {
        return outcome instanceof String && ((String) outcome).startsWith("throws.");
    }

    static Object outcome(Call made) {
        try {
            return made.answer();
        } catch (RuntimeException thrown) {
            String kind = "throws." + thrown.getClass().getSimpleName();
            return isThrownByProgram(thrown) ? kind : kind + " of the library";
        }
    }

    private static boolean isThrownByProgram(RuntimeException thrown) {
        StackTraceElement[] trace = thrown.getStackTrace();
        return trace.length > 0 && trace[0].getClassName().startsWith("Stuccohand");
    }

    static Stuccohand withWall(int strips, int ground) {
        Stuccohand x = new Stuccohand();
        x.wall(strips, ground);
        return x;
    }

    static String textOf(Stuccohand x, int wall, int strip, int coat) {
        StringBuilder words = new StringBuilder();
        for (int place = 0; place < 100; place++) {
            char sign = x.text(wall, strip, coat, place);
            if (sign == 0) {
                return words.toString();
            }
            words.append(sign);
        }
        return words + "..";
    }

    void finish() {
        turnTo("");
        System.out.println(name + ": " + asked + " answers, " + wrong + " wrong");
        if (wrong > 0 || asked == 0) {
            System.exit(1);
        }
    }
}
