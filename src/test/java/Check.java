/** Counts the answers that are not as due, and prints each of them. */
final class Check {
    interface Call {
        Object make();
    }

    private static String topic = "";
    private static int wrong = 0;

    private Check() {
    }

    /** What is printed from now on before each answer that is not as due. */
    static void about(String newTopic) {
        topic = newTopic;
    }

    static void due(String what, Object got, Object want) {
        if (!got.equals(want)) {
            wrong++;
            System.out.println(topic + what + " answered " + got + ", due is " + want);
        }
    }

    static void dueThrow(String what, Class<? extends RuntimeException> want, Call call) {
        Object got;
        try {
            got = call.make();
        } catch (RuntimeException thrown) {
            got = thrown.getClass();
        }
        due(what, got == null ? "nothing" : got, want);
    }

    /** Ends the test with exit code 1 if an answer was wrong. */
    static void finish() {
        if (wrong != 0) {
            System.out.println(wrong + " answers are not as due");
            System.exit(1);
        }
    }
}
