/** What the tests share: answers are compared, the wrong ones printed and counted. */
final class Check {
    private static int wrong = 0;
    private static int made = 0;

    private Check() {
    }

    interface Call {
        long answer();
    }

    static void equal(String what, long want, long got) {
        made++;
        if (want != got) {
            wrong++;
            System.out.println(what + " answered " + got + ", due is " + want);
        }
    }

    static void equal(String what, String want, String got) {
        made++;
        if (!want.equals(got)) {
            wrong++;
            System.out.println(what + " answered " + got + ", due is " + want);
        }
    }

    static void argument(String what, Call call) {
        equal(what, "throws.IllegalArgumentException", answerOf(call));
    }

    static void state(String what, Call call) {
        equal(what, "throws.IllegalStateException", answerOf(call));
    }

    /** The answer as a text; an exception counts by its own class, not by one above it. */
    static String answerOf(Call call) {
        try {
            return Long.toString(call.answer());
        } catch (RuntimeException e) {
            return "throws." + e.getClass().getSimpleName();
        }
    }

    static boolean anyWrong() {
        return wrong != 0;
    }

    static void finish() {
        System.out.println(made + " checks, " + wrong + " wrong");
        if (wrong != 0) {
            System.exit(1);
        }
    }

    /** What can be seen of an object in few calls, to tell that a refused call changed nothing. */
    static String seen(ClinicBooks x) {
        StringBuilder text = new StringBuilder();
        for (int c = 0; c < 4; c++) {
            text.append(x.sum(c)).append(' ');
            for (int d = 0; d < 4; d++) {
                text.append(x.known(c, d)).append(' ');
            }
        }
        for (int s = 0; s < 3; s++) {
            for (int w = 0; w < 3; w++) {
                text.append(x.stick(s, w)).append(' ');
            }
        }
        return text.toString();
    }

    /** Brings all that one clinic may send to another, by stick 0. */
    static int carry(ClinicBooks x, int from, int to) {
        x.write(from, 0);
        return x.load(to, 0);
    }

    static void fill(ClinicBooks x, int clinic, int count) {
        for (int i = 0; i < count; i++) {
            x.same(clinic, 0, 0);
        }
    }
}
