/** Counts and prints the answers that are not the ones that are due. */
final class Check {
    interface Call {
        long answer();
    }

    static final long ILLEGAL_ARGUMENT = Long.MIN_VALUE;
    static final long ILLEGAL_STATE = Long.MIN_VALUE + 1;

    private static int wrong = 0;
    private static String sentence = "";

    private Check() {
    }

    /** The document's words that the checks from here on hold to; printed with what fails. */
    static void sentence(String words) {
        sentence = "[" + words + "] ";
    }

    /** What a call answers, or which of the document's exceptions it throws. */
    static long of(Call call) {
        try {
            return call.answer();
        } catch (IllegalArgumentException e) {
            return e.getClass() == IllegalArgumentException.class ? ILLEGAL_ARGUMENT : strange(e);
        } catch (IllegalStateException e) {
            return e.getClass() == IllegalStateException.class ? ILLEGAL_STATE : strange(e);
        } catch (RuntimeException e) {
            return strange(e);
        }
    }

    static void due(String what, long want, Call call) {
        long got = of(call);
        if (got != want) {
            fail(what, "answered " + text(got) + ", due is " + text(want));
        }
    }

    static void due(String what, boolean want, boolean got) {
        if (got != want) {
            fail(what, "is " + got + ", due is " + want);
        }
    }

    static void illegalArgument(String what, Call call) {
        due(what, ILLEGAL_ARGUMENT, call);
    }

    static void illegalState(String what, Call call) {
        due(what, ILLEGAL_STATE, call);
    }

    static void end() {
        if (wrong != 0) {
            System.out.println(wrong + " answers are not as due");
            System.exit(1);
        }
    }

    private static void fail(String what, String how) {
        wrong++;
        System.out.println(sentence + what + ": " + how);
    }

    private static long strange(RuntimeException e) {
        fail("a call", "threw " + e + ", which the document does not name");
        return Long.MIN_VALUE + 2;
    }

    private static String text(long answer) {
        if (answer == ILLEGAL_ARGUMENT) {
            return "IllegalArgumentException";
        }
        return answer == ILLEGAL_STATE ? "IllegalStateException" : Long.toString(answer);
    }
}
