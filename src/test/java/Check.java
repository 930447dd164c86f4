/** Compares answers with those that are due, prints the wrong ones, and ends the test. */
final class Check {
    private static int right = 0;
    private static int wrong = 0;
    private static String place = "";

    interface Call {
        long answer();
    }

    private Check() {
    }

    /** What is told ahead of each wrong answer from here on. */
    static void at(String told) {
        place = told + ": ";
    }

    static void is(String what, long got, long due) {
        note(got == due, what + " answered " + got + ", due is " + due);
    }

    static void isText(String what, String got, String due) {
        note(got.equals(due), what + " answered " + got + ", due is " + due);
    }

    static void isTrue(String what, boolean holds) {
        note(holds, what);
    }

    static void refuses(String what, Class<? extends RuntimeException> due, Call call) {
        isText(what, told(call), due.getName());
    }

    /** Any answer will do, but no exception. */
    static void takes(String what, Call call) {
        String got = told(call);
        note(got.startsWith("the answer"), what + " answered " + got + ", due is an answer");
    }

    static void noIndex(String what, Call call) {
        refuses(what, IndexOutOfBoundsException.class, call);
    }

    static void noArgument(String what, Call call) {
        refuses(what, IllegalArgumentException.class, call);
    }

    static void noState(String what, Call call) {
        refuses(what, IllegalStateException.class, call);
    }

    private static String told(Call call) {
        try {
            return "the answer " + call.answer();
        } catch (RuntimeException e) {
            return e.getClass().getName();
        }
    }

    private static void note(boolean holds, String told) {
        if (holds) {
            right++;
        } else {
            wrong++;
            System.out.println("wrong: " + place + told);
        }
    }

    static void end(String test) {
        System.out.println(test + ": " + right + " answers as due, " + wrong + " not");
        if (wrong > 0 || right == 0) {
            System.exit(1);
        }
    }
}
