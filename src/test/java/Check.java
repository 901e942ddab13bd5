import java.util.Objects;

/** Counts and prints the answers that are not as due. */
final class Check {
    private static int wrong = 0;
    private static int looked = 0;

    private Check() {
    }

    interface Call {
        Object answer();
    }

    /** Prints the call if its answer is not the one that is due; numbers count alike as int and as long. */
    static void due(String call, Object got, Object want) {
        looked++;
        if (!Objects.equals(plain(got), plain(want))) {
            wrong++;
            System.out.println(call + " answered " + got + ", due is " + want);
        }
    }

    /** The exception must be of the class itself: one that the machine throws is often of a class below it. */
    static void thrown(String name, Class<? extends RuntimeException> want, Call call) {
        Object got;
        try {
            got = call.answer();
        } catch (RuntimeException e) {
            got = e.getClass();
        }
        due(name, got, want);
    }

    static void end(String test) {
        System.out.println(test + ": " + looked + " answers, " + wrong + " not as due");
        if (wrong != 0) {
            System.exit(1);
        }
    }

    static int wrongSoFar() {
        return wrong;
    }

    private static Object plain(Object value) {
        return value instanceof Integer ? Long.valueOf((Integer) value) : value;
    }
}
