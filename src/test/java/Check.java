/** Compares answers with those that are due, and prints the ones that differ. */
final class Check {
    interface Call {
        int answer();
    }

    private static int wrong = 0;
    private static int looked = 0;
    private static String sentence = "";

    private Check() {
    }

    /** Told beside what is wrong from here on: the promise, and the sentence of it in short. */
    static void sentence(String words) {
        sentence = " (" + words + ")";
    }

    static void due(String what, long want, long got) {
        due(what, Long.toString(want), Long.toString(got));
    }

    static void due(String what, String want, String got) {
        looked++;
        if (!got.equals(want)) {
            wrong++;
            System.out.println(what + " answered " + got + ", due is " + want + sentence);
        }
    }

    static void noSuch(String what, Call call) {
        due(what, "IndexOutOfBoundsException", answerOf(call));
    }

    static void outOfRange(String what, Call call) {
        due(what, "IllegalArgumentException", answerOf(call));
    }

    static void full(String what, Call call) {
        due(what, "IllegalStateException", answerOf(call));
    }

    /** The number that the call answers, or the name of the exception that it throws. */
    static String answerOf(Call call) {
        try {
            return Integer.toString(call.answer());
        } catch (RuntimeException thrown) {
            return thrown.getClass().getSimpleName();
        }
    }

    static void end() {
        System.out.println(looked + " answers looked at, " + wrong + " not as due");
        if (wrong != 0 || looked == 0) {
            System.exit(1);
        }
    }
}
