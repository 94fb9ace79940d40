/** Counts answers that are not as due; a test ends with exit code 1 if there was one. */
final class Check {
    private static int done = 0;
    private static int wrong = 0;

    private Check() {
    }

    /** A call that may answer or throw. */
    interface Call {
        long answer();
    }

    static void due(String what, long got, long want) {
        done++;
        if (got != want) {
            wrong++;
            System.out.println(what + " answered " + got + ", due is " + want);
        }
    }

    static void dueText(String what, String got, String want) {
        done++;
        if (!got.equals(want)) {
            wrong++;
            System.out.println(what + " answered " + got + ", due is " + want);
        }
    }

    static void argument(String what, Call call) {
        dueText(what, outcome(call), "throws.IllegalArgumentException");
    }

    static void state(String what, Call call) {
        dueText(what, outcome(call), "throws.IllegalStateException");
    }

    /** Only these two exact classes are the document's; another one, or one below them, shows by its name. */
    static String outcome(Call call) {
        try {
            return Long.toString(call.answer());
        } catch (RuntimeException thrown) {
            return "throws." + thrown.getClass().getSimpleName();
        }
    }

    /** Numbers just outside the bounds, and the ends of int. */
    static int[] outside(int least, int most) {
        return new int[] {least - 1, most + 1, Integer.MIN_VALUE, Integer.MAX_VALUE};
    }

    static void end(String name) {
        System.out.println(name + ": " + done + " answers, " + wrong + " not as due");
        if (done == 0 || wrong != 0) {
            System.exit(1);
        }
    }
}
