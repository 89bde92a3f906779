import java.util.ArrayList;
import java.util.Arrays;
import java.util.List;

/**
 * A state that tests begin from: the calls that lead to it. Each question is asked of an object
 * made anew, so that no object is used for more than 512 calls.
 */
final class State {
    private static final int[] NO_CALL = null;

    private interface View {
        void add(ClinicBooks x, StringBuilder text);
    }

    private static final View[] VIEWS = {State::seeBooks, State::seeCounting, State::seeDue,
        State::seeProtected, State::seeLots, State::seeCoverage, State::seeOwnEntries,
        State::goOnWithSticks, State::goOnWithStrikes, State::goOnWithEntries,
        State::goOnWithSchedule};

    private final String name;
    private final List<int[]> calls = new ArrayList<>();
    private String seen;

    State(String name) {
        this.name = name;
    }

    String name() {
        return name;
    }

    /** A call more on the way to this state; it must be one that is not refused. */
    State with(int kind, int... a) {
        calls.add(callOf(kind, a));
        seen = null;
        return this;
    }

    State filled(int clinic, int count) {
        for (int i = 0; i < count; i++) {
            with(Calls.SAME, clinic, 0, 0);
        }
        return this;
    }

    /** What one clinic may send is brought to another, by stick 0. */
    State carried(int from, int to) {
        return with(Calls.WRITE, from, 0).with(Calls.LOAD, to, 0);
    }

    ClinicBooks books() {
        ClinicBooks x = new ClinicBooks();
        for (int[] call : calls) {
            Calls.byBooks(x, call[0], argumentsOf(call));
        }
        return x;
    }

    Model model() {
        Model x = new Model();
        for (int[] call : calls) {
            Calls.byModel(x, call[0], argumentsOf(call));
        }
        return x;
    }

    void answers(long want, int kind, int... a) {
        answersText(Long.toString(want), callOf(kind, a));
    }

    void refusesArgument(int kind, int... a) {
        refuses("throws.IllegalArgumentException", callOf(kind, a));
    }

    void refusesState(int kind, int... a) {
        refuses("throws.IllegalStateException", callOf(kind, a));
    }

    void hasNone(int kind, int... a) {
        refuses("-1", callOf(kind, a));
    }

    private void refuses(String want, int[] call) {
        answersText(want, call);
        Check.equal(name + ": " + show(call) + " leaves to be seen", seen(), seenAfter(call));
    }

    private void answersText(String want, int[] call) {
        ClinicBooks x = books();
        Check.equal(name + ": " + show(call), want,
                Check.answerOf(() -> Calls.byBooks(x, call[0], argumentsOf(call))));
    }

    private String seen() {
        if (seen == null) {
            seen = seenAfter(NO_CALL);
        }
        return seen;
    }

    private String seenAfter(int[] call) {
        StringBuilder text = new StringBuilder();
        for (View view : VIEWS) {
            ClinicBooks x = books();
            if (call != NO_CALL) {
                Check.answerOf(() -> Calls.byBooks(x, call[0], argumentsOf(call)));
            }
            view.add(x, text);
            text.append('|');
        }
        return text.toString();
    }

    private static int[] callOf(int kind, int[] a) {
        int[] call = new int[6];
        call[0] = kind;
        System.arraycopy(a, 0, call, 1, a.length);
        return call;
    }

    private static int[] argumentsOf(int[] call) {
        return Arrays.copyOfRange(call, 1, 6);
    }

    private static String show(int[] call) {
        return Calls.show(call[0], argumentsOf(call));
    }

    private static void ask(ClinicBooks x, StringBuilder text, int kind, int... a) {
        int[] call = callOf(kind, a);
        text.append(Check.answerOf(() -> Calls.byBooks(x, kind, argumentsOf(call)))).append(' ');
    }

    private static void seeBooks(ClinicBooks x, StringBuilder text) {
        for (int c = 0; c < 4; c++) {
            ask(x, text, Calls.SUM, c);
            for (int d = 0; d < 4; d++) {
                ask(x, text, Calls.KNOWN, c, d);
                for (int b = 0; b < 4; b++) {
                    ask(x, text, Calls.HEARD, c, b, d);
                }
            }
            for (int p = 0; p < 12; p++) {
                ask(x, text, Calls.WHO_IS, c, p);
            }
        }
        for (int s = 0; s < 3; s++) {
            for (int w = 0; w < 3; w++) {
                ask(x, text, Calls.STICK, s, w);
            }
        }
    }

    private static void seeCounting(ClinicBooks x, StringBuilder text) {
        seeCases(x, text, Calls.COUNTING);
    }

    private static void seeDue(ClinicBooks x, StringBuilder text) {
        seeCases(x, text, Calls.DUE);
    }

    private static void seeProtected(ClinicBooks x, StringBuilder text) {
        seeCases(x, text, Calls.PROTECTED_DAY);
    }

    private static void seeCases(ClinicBooks x, StringBuilder text, int kind) {
        for (int c = 0; c < 4; c++) {
            for (int p = 0; p < 12; p++) {
                for (int v = 0; v < 3; v++) {
                    ask(x, text, kind, c, p, v);
                }
            }
        }
    }

    private static void seeLots(ClinicBooks x, StringBuilder text) {
        for (int c = 0; c < 4; c++) {
            for (int lot = 0; lot < 10; lot++) {
                for (int i = 0; i < 4; i++) {
                    ask(x, text, Calls.LOT_LIST, c, lot, i);
                }
            }
        }
    }

    private static void seeCoverage(ClinicBooks x, StringBuilder text) {
        for (int c = 0; c < 4; c++) {
            for (int v = 0; v < 3; v++) {
                for (int day : new int[] {0, 10, 1000, 40000}) {
                    ask(x, text, Calls.COVERAGE, c, v, day);
                }
            }
        }
    }

    private static void seeOwnEntries(ClinicBooks x, StringBuilder text) {
        for (int c = 0; c < 4; c++) {
            for (int i = 0; i < 24; i++) {
                ask(x, text, Calls.ENTRY, c, c, i, 0);
                ask(x, text, Calls.ENTRY, c, c, i, 1 + i % 4);
            }
        }
    }

    /** What is on a stick is seen by loading it, and what was heard by writing. */
    private static void goOnWithSticks(ClinicBooks x, StringBuilder text) {
        for (int s = 0; s < 3; s++) {
            for (int c = 0; c < 4; c++) {
                ask(x, text, Calls.LOAD, c, s);
            }
        }
        for (int c = 0; c < 4; c++) {
            ask(x, text, Calls.WRITE, c, 0);
            ask(x, text, Calls.STICK, 0, 2);
        }
        seeBooks(x, text);
    }

    private static void goOnWithStrikes(ClinicBooks x, StringBuilder text) {
        for (int c = 0; c < 4; c++) {
            for (int i = 0; i < 24; i++) {
                ask(x, text, Calls.STRIKE, c, i);
            }
            ask(x, text, Calls.SUM, c);
        }
    }

    private static void goOnWithEntries(ClinicBooks x, StringBuilder text) {
        for (int c = 0; c < 4; c++) {
            ask(x, text, Calls.DOSE, c, 2, 1, 3, 50);
            ask(x, text, Calls.RECALL, c, 3, 51, 52);
            ask(x, text, Calls.SAME, c, 2, 10);
            ask(x, text, Calls.COUNTING, c, 10, 1);
            ask(x, text, Calls.SUM, c);
        }
    }

    /** A schedule is seen by giving each dose on the day on which it is due. */
    private static void goOnWithSchedule(ClinicBooks x, StringBuilder text) {
        for (int v = 0; v < 3; v++) {
            for (int k = 0; k < 5; k++) {
                ask(x, text, Calls.DUE, 3, 9, v);
                ask(x, text, Calls.DOSE, 3, 9, v, 9, Math.max(0, x.due(3, 9, v)));
            }
            ask(x, text, Calls.PROTECTED_DAY, 3, 9, v);
        }
        ask(x, text, Calls.SCHEDULE, 0, 1, 0, 0, 0);
    }
}
