/** Counts the answers that are not the ones that are due, and prints them. */
final class Check {
    interface Call {
        Object answer();
    }

    private final String name;
    private int asked;
    private int wrong;

    Check(String name) {
        this.name = name;
    }

    void due(String call, Object want, Object got) {
        asked++;
        if (!want.equals(got)) {
            wrong++;
            System.out.println(name + ": " + call + " answered " + got + ", due is " + want);
        }
    }

    /** The call must throw that class itself, by a throw of the program. */
    void fails(String call, Class<? extends RuntimeException> want, Call made) {
        due(call, "throws." + want.getSimpleName(), outcome(made));
    }

    static Object outcome(Call made) {
        try {
            return made.answer();
        } catch (RuntimeException thrown) {
            String kind = "throws." + thrown.getClass().getSimpleName();
            return isThrownByProgram(thrown) ? kind : kind + " of the library";
        }
    }

    private static boolean isThrownByProgram(RuntimeException thrown) {
        StackTraceElement[] trace = thrown.getStackTrace();
        return trace.length > 0 && trace[0].getClassName().startsWith("Stuccohand");
    }

    static String textOf(Stuccohand x, int wall, int strip, int coat) {
        StringBuilder words = new StringBuilder();
        for (int place = 0; place < 100; place++) {
            char sign = x.text(wall, strip, coat, place);
            if (sign == 0) {
                return words.toString();
            }
            words.append(sign);
        }
        return words + "..";
    }

    void finish() {
        System.out.println(name + ": " + asked + " answers, " + wrong + " wrong");
        if (wrong > 0 || asked == 0) {
            System.exit(1);
        }
    }
}
