/** Counts the answers that are not as due; every test ends with done(). */
final class Check {
    static final Class<? extends RuntimeException> BEYOND = IndexOutOfBoundsException.class;
    static final Class<? extends RuntimeException> ARGUMENT = IllegalArgumentException.class;
    static final Class<? extends RuntimeException> STATE = IllegalStateException.class;

    interface Call {
        void run();
    }

    private static int wrong = 0;
    private static String sentence = "";

    private Check() {
    }

    /** What a wrong answer from here on breaks; it is told with the answer. */
    static void standsFor(String text) {
        sentence = text;
    }

    static void due(String what, long got, long want) {
        if (got != want) {
            fail(what + " answered " + got + ", due is " + want);
        }
    }

    /** Exactly this class: what the machine throws by itself is a class below it. */
    static void throwsDue(String what, Class<? extends RuntimeException> want, Call call) {
        try {
            call.run();
            fail(what + " threw nothing, due is " + want.getName());
        } catch (RuntimeException e) {
            if (e.getClass() != want) {
                fail(what + " threw " + e + ", due is " + want.getName());
            }
        }
    }

    static void fail(String text) {
        wrong++;
        System.out.println(text);
        if (!sentence.isEmpty()) {
            System.out.println("    against " + sentence);
        }
    }

    static void done() {
        if (wrong != 0) {
            System.out.println(wrong + " answers are not as due");
            System.exit(1);
        }
    }
}
