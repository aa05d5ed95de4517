/** Counts and prints the answers that are not due; a test ends with close(). */
final class Check {
    interface Call {
        Object answer();
    }

    private static int wrong = 0;

    private Check() {
    }

    static void due(String call, Object got, Object want) {
        if (!want.equals(got)) {
            wrong++;
            System.out.println(call + " answered " + got + ", due is " + want);
        }
    }

    static void throwsOnly(Class<? extends RuntimeException> want, String name, Call call) {
        due(name, outcome(call), "throws." + want.getSimpleName());
    }

    static String outcome(Call call) {
        try {
            return String.valueOf(call.answer());
        } catch (RuntimeException e) {
            return "throws." + e.getClass().getSimpleName();
        }
    }

    static void close() {
        System.out.println(wrong == 0 ? "all answers are as due" : wrong + " answers are not as due");
        if (wrong != 0) {
            System.exit(1);
        }
    }
}
