import java.util.Arrays;

/** Counts answers that are as due and those that are not. */
final class Check {
    /** A call whose answer, if it has one, is given as a long. */
    interface Call {
        long answer();
    }

    private int right = 0;
    private int wrong = 0;
    private String subject = "";

    /** Names what the checks from here on are about. */
    void about(String name) {
        subject = name + ": ";
    }

    /** Names the sentence of the document that the checks from here on are about. */
    void sentence(String words) {
        about("\"" + words + "\"");
    }

    void equal(String what, long want, long got) {
        if (want == got) {
            right++;
        } else {
            tellWrong(what + ": answered " + got + ", due is " + want);
        }
    }

    private void tellWrong(String told) {
        wrong++;
        System.out.println(subject + told);
    }

    void equal(String what, float want, float got) {
        equal(what + " (as bits)", Float.floatToIntBits(want), Float.floatToIntBits(got));
    }

    void equal(String what, int[] want, int[] got) {
        if (Arrays.equals(want, got)) {
            right++;
        } else {
            tellWrong(what + ": answered " + Arrays.toString(got) + ", due is " + Arrays.toString(want));
        }
    }

    void equal(String what, String want, String got) {
        if (want.equals(got)) {
            right++;
        } else {
            tellWrong(what + ": answered " + got + ", due is " + want);
        }
    }

    /** Exactly the class counts: ArrayIndexOutOfBoundsException is not IndexOutOfBoundsException. */
    void throwing(String what, Class<? extends RuntimeException> want, Call call) {
        String got = nameOfThrown(call);
        if (want.getName().equals(got)) {
            right++;
        } else {
            tellWrong(what + ": threw " + got + ", due is " + want.getName());
        }
    }

    private static String nameOfThrown(Call call) {
        try {
            call.answer();
            return "nothing";
        } catch (RuntimeException thrown) {
            return isThrownByTheProgram(thrown) ? thrown.getClass().getName() : "by itself " + thrown;
        }
    }

    /** Whether it was a throw of the program's own, not one of a library's or of the machine's. */
    static boolean isThrownByTheProgram(Throwable thrown) {
        StackTraceElement[] calls = thrown.getStackTrace();
        return calls.length > 0 && calls[0].getClassName().startsWith("MessageCentre");
    }

    void noIndex(String what, Call call) {
        throwing(what, IndexOutOfBoundsException.class, call);
    }

    void noArgument(String what, Call call) {
        throwing(what, IllegalArgumentException.class, call);
    }

    void noState(String what, Call call) {
        throwing(what, IllegalStateException.class, call);
    }

    /** Ends the program, with exit code 1 if an answer was not as due. */
    void end(String name) {
        System.out.println(name + ": " + right + " answers as due, " + wrong + " not");
        System.exit(wrong == 0 && right > 0 ? 0 : 1);
    }
}
