/** Counts the answers of a test that are not as due, and ends it. */
final class Check {
    private static int wrong = 0;
    private static String sentence = "";

    private Check() {
    }

    /** A call that may throw. */
    interface Call {
        Object answer();
    }

    /** Begins the test of a sentence of the document: a wrong answer below is told with these words. */
    static void sentence(String words) {
        sentence = "\"" + words + "\": ";
    }

    /** Numbers that are too small or too large, next to the least and the greatest one and as far off as can be. */
    static int[] outside(int least, int greatest) {
        return new int[] {Integer.MIN_VALUE, least - 1, greatest + 1, Integer.MAX_VALUE};
    }

    /** Compares what a call answers; a value is compared by its text, so that 3 and 3L are the same. */
    static void due(String call, Object want, Call made) {
        String got = outcome(made);
        if (!got.equals(String.valueOf(want))) {
            wrong++;
            System.out.println(sentence + call + " answered " + got + ", due is " + want);
        }
    }

    static void outOfBounds(String call, Call made) {
        due(call, "throws IndexOutOfBoundsException", made);
    }

    static void wrongArgument(String call, Call made) {
        due(call, "throws IllegalArgumentException", made);
    }

    static void wrongState(String call, Call made) {
        due(call, "throws IllegalStateException", made);
    }

    /** The answer as a text, or the exact class of what was thrown: a class below it is another one. */
    static String outcome(Call made) {
        try {
            return String.valueOf(made.answer());
        } catch (Throwable thrown) {
            return "throws " + thrown.getClass().getSimpleName();
        }
    }

    static void end() {
        System.exit(wrong == 0 ? 0 : 1);
    }
}
