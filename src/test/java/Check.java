/** Compares the answers of calls with those that are due, and counts the wrong ones. */
final class Check {
    /** A call whose answer is compared; an exception of it is an answer too. */
    interface Call {
        Object run();
    }

    private static int calls = 0;
    private static int wrong = 0;

    private Check() {
    }

    /** The answer as a text: the value, or "throws." and the exact name of the exception. */
    static String answerOf(Call call) {
        try {
            return String.valueOf(call.run());
        } catch (RuntimeException e) {
            return "throws." + e.getClass().getSimpleName() + originOf(e);
        }
    }

    /** An exception that the Java machine or its library throws is a fault, whatever its class. */
    private static String originOf(RuntimeException e) {
        StackTraceElement[] trace = e.getStackTrace();
        if (trace.length == 0) {
            return " from an unknown place";
        }
        String origin = trace[0].getClassName();
        boolean ours = origin.startsWith("DustSheetMap") || origin.startsWith("ReferenceMap");
        return ours ? "" : " from " + origin;
    }

    static void due(String what, Object want, Call call) {
        same(what, String.valueOf(want), answerOf(call));
    }

    static void same(String what, String want, String got) {
        calls++;
        if (!want.equals(got)) {
            wrong++;
            System.out.println(what + " answered " + got + ", due is " + want);
        }
    }

    static void end() {
        System.out.println(calls + " answers, " + wrong + " not as due");
        if (wrong != 0 || calls == 0) {
            System.exit(1);
        }
    }
}
